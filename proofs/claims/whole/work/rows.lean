section
-- ===== PART A: goes FIRST, ahead of the names: the tables' words, and 'selects' of the private methods out of them =====
/-- a private method of a class that the tables say can be made, by its rows of tables_1 -/
def lw_okq (q : MethodName × Nat) : Prop := (q.1.cls ≠ "java/lang/invoke/MethodHandle" ∧ q.1.cls ≠ "java/lang/invoke/VarHandle") ∧ Cond.instantiable q.1.cls q.2 ∈ tables_1 ∧ Cond.privateMethod q.1 ∈ tables_1 ∧ Cond.instanceMethod q.1 ∈ tables_1
theorem lw_p0 : lw_okq (⟨"TwoColours", "orderByNumbers", "()V"⟩, 15) := ⟨⟨by decide +kernel, by decide +kernel⟩, List.mem_of_getElem? (i := 7) (by decide +kernel), List.mem_of_getElem? (i := 15) (by decide +kernel), List.mem_of_getElem? (i := 16) (by decide +kernel)⟩
theorem lw_p1 : lw_okq (⟨"TwoColours", "putAt", "(II)V"⟩, 15) := ⟨⟨by decide +kernel, by decide +kernel⟩, List.mem_of_getElem? (i := 7) (by decide +kernel), List.mem_of_getElem? (i := 19) (by decide +kernel), List.mem_of_getElem? (i := 20) (by decide +kernel)⟩
theorem lw_p2 : lw_okq (⟨"TwoColours", "isThing", "(I)Z"⟩, 15) := ⟨⟨by decide +kernel, by decide +kernel⟩, List.mem_of_getElem? (i := 7) (by decide +kernel), List.mem_of_getElem? (i := 78) (by decide +kernel), List.mem_of_getElem? (i := 79) (by decide +kernel)⟩
theorem lw_p3 : lw_okq (⟨"TwoColours", "thingsOf", "(III)I"⟩, 15) := ⟨⟨by decide +kernel, by decide +kernel⟩, List.mem_of_getElem? (i := 7) (by decide +kernel), List.mem_of_getElem? (i := 82) (by decide +kernel), List.mem_of_getElem? (i := 83) (by decide +kernel)⟩
theorem lw_p4 : lw_okq (⟨"TwoColours", "belongs", "(IIII)Z"⟩, 15) := ⟨⟨by decide +kernel, by decide +kernel⟩, List.mem_of_getElem? (i := 7) (by decide +kernel), List.mem_of_getElem? (i := 86) (by decide +kernel), List.mem_of_getElem? (i := 87) (by decide +kernel)⟩
theorem lw_p5 : lw_okq (⟨"TwoColours", "canBeHeap", "(III)Z"⟩, 15) := ⟨⟨by decide +kernel, by decide +kernel⟩, List.mem_of_getElem? (i := 7) (by decide +kernel), List.mem_of_getElem? (i := 104) (by decide +kernel), List.mem_of_getElem? (i := 105) (by decide +kernel)⟩
theorem lw_p6 : lw_okq (⟨"TwoColours", "isColouring", "(I)Z"⟩, 15) := ⟨⟨by decide +kernel, by decide +kernel⟩, List.mem_of_getElem? (i := 7) (by decide +kernel), List.mem_of_getElem? (i := 108) (by decide +kernel), List.mem_of_getElem? (i := 109) (by decide +kernel)⟩
theorem lw_p7 : lw_okq (⟨"TwoColours", "colouringCount", "()I"⟩, 15) := ⟨⟨by decide +kernel, by decide +kernel⟩, List.mem_of_getElem? (i := 7) (by decide +kernel), List.mem_of_getElem? (i := 112) (by decide +kernel), List.mem_of_getElem? (i := 113) (by decide +kernel)⟩
theorem lw_p8 : lw_okq (⟨"TwoColours", "isHeap", "(I)Z"⟩, 15) := ⟨⟨by decide +kernel, by decide +kernel⟩, List.mem_of_getElem? (i := 7) (by decide +kernel), List.mem_of_getElem? (i := 124) (by decide +kernel), List.mem_of_getElem? (i := 125) (by decide +kernel)⟩
theorem lw_p9 : lw_okq (⟨"TwoColours", "isHeld", "(I)Z"⟩, 15) := ⟨⟨by decide +kernel, by decide +kernel⟩, List.mem_of_getElem? (i := 7) (by decide +kernel), List.mem_of_getElem? (i := 139) (by decide +kernel), List.mem_of_getElem? (i := 140) (by decide +kernel)⟩
theorem lw_p10 : lw_okq (⟨"TwoColours", "offOf", "(II)I"⟩, 15) := ⟨⟨by decide +kernel, by decide +kernel⟩, List.mem_of_getElem? (i := 7) (by decide +kernel), List.mem_of_getElem? (i := 147) (by decide +kernel), List.mem_of_getElem? (i := 148) (by decide +kernel)⟩
theorem lw_p11 : lw_okq (⟨"TwoColours", "worstOf", "(I)I"⟩, 15) := ⟨⟨by decide +kernel, by decide +kernel⟩, List.mem_of_getElem? (i := 7) (by decide +kernel), List.mem_of_getElem? (i := 167) (by decide +kernel), List.mem_of_getElem? (i := 168) (by decide +kernel)⟩
theorem lw_p12 : lw_okq (⟨"TwoColours", "squaresOf", "(I)I"⟩, 15) := ⟨⟨by decide +kernel, by decide +kernel⟩, List.mem_of_getElem? (i := 7) (by decide +kernel), List.mem_of_getElem? (i := 178) (by decide +kernel), List.mem_of_getElem? (i := 179) (by decide +kernel)⟩
theorem lw_p13 : lw_okq (⟨"TwoColours", "firstLeast", "()I"⟩, 15) := ⟨⟨by decide +kernel, by decide +kernel⟩, List.mem_of_getElem? (i := 7) (by decide +kernel), List.mem_of_getElem? (i := 190) (by decide +kernel), List.mem_of_getElem? (i := 191) (by decide +kernel)⟩
theorem lw_p14 : lw_okq (⟨"TwoColours", "keepsToHeld", "(I)Z"⟩, 15) := ⟨⟨by decide +kernel, by decide +kernel⟩, List.mem_of_getElem? (i := 7) (by decide +kernel), List.mem_of_getElem? (i := 194) (by decide +kernel), List.mem_of_getElem? (i := 195) (by decide +kernel)⟩
theorem lw_p15 : lw_okq (⟨"TwoColours", "colourAlongPairs", "(IZ)V"⟩, 15) := ⟨⟨by decide +kernel, by decide +kernel⟩, List.mem_of_getElem? (i := 7) (by decide +kernel), List.mem_of_getElem? (i := 224) (by decide +kernel), List.mem_of_getElem? (i := 225) (by decide +kernel)⟩
def lw_privs_1 : List (MethodName × Nat) := [(⟨"TwoColours", "orderByNumbers", "()V"⟩, 15), (⟨"TwoColours", "putAt", "(II)V"⟩, 15), (⟨"TwoColours", "isThing", "(I)Z"⟩, 15), (⟨"TwoColours", "thingsOf", "(III)I"⟩, 15), (⟨"TwoColours", "belongs", "(IIII)Z"⟩, 15), (⟨"TwoColours", "canBeHeap", "(III)Z"⟩, 15), (⟨"TwoColours", "isColouring", "(I)Z"⟩, 15), (⟨"TwoColours", "colouringCount", "()I"⟩, 15), (⟨"TwoColours", "isHeap", "(I)Z"⟩, 15), (⟨"TwoColours", "isHeld", "(I)Z"⟩, 15), (⟨"TwoColours", "offOf", "(II)I"⟩, 15), (⟨"TwoColours", "worstOf", "(I)I"⟩, 15), (⟨"TwoColours", "squaresOf", "(I)I"⟩, 15), (⟨"TwoColours", "firstLeast", "()I"⟩, 15), (⟨"TwoColours", "keepsToHeld", "(I)Z"⟩, 15), (⟨"TwoColours", "colourAlongPairs", "(IZ)V"⟩, 15)]
theorem lw_r1 : ∀ q ∈ lw_privs_1, lw_okq q := List.forall_mem_cons.mpr ⟨lw_p0, List.forall_mem_cons.mpr ⟨lw_p1, List.forall_mem_cons.mpr ⟨lw_p2, List.forall_mem_cons.mpr ⟨lw_p3, List.forall_mem_cons.mpr ⟨lw_p4, List.forall_mem_cons.mpr ⟨lw_p5, List.forall_mem_cons.mpr ⟨lw_p6, List.forall_mem_cons.mpr ⟨lw_p7, List.forall_mem_cons.mpr ⟨lw_p8, List.forall_mem_cons.mpr ⟨lw_p9, List.forall_mem_cons.mpr ⟨lw_p10, List.forall_mem_cons.mpr ⟨lw_p11, List.forall_mem_cons.mpr ⟨lw_p12, List.forall_mem_cons.mpr ⟨lw_p13, List.forall_mem_cons.mpr ⟨lw_p14, List.forall_mem_cons.mpr ⟨lw_p15, fun _ h => absurd h List.not_mem_nil⟩⟩⟩⟩⟩⟩⟩⟩⟩⟩⟩⟩⟩⟩⟩⟩
theorem lw_p16 : lw_okq (⟨"TwoColours", "partnerInFirstOrder", "(I)I"⟩, 15) := ⟨⟨by decide +kernel, by decide +kernel⟩, List.mem_of_getElem? (i := 7) (by decide +kernel), List.mem_of_getElem? (i := 228) (by decide +kernel), List.mem_of_getElem? (i := 229) (by decide +kernel)⟩
theorem lw_p17 : lw_okq (⟨"TwoColours", "partnerInSecondOrder", "(I)I"⟩, 15) := ⟨⟨by decide +kernel, by decide +kernel⟩, List.mem_of_getElem? (i := 7) (by decide +kernel), List.mem_of_getElem? (i := 232) (by decide +kernel), List.mem_of_getElem? (i := 233) (by decide +kernel)⟩
theorem lw_p18 : lw_okq (⟨"TwoColours", "colourOnComing", "(II)I"⟩, 15) := ⟨⟨by decide +kernel, by decide +kernel⟩, List.mem_of_getElem? (i := 7) (by decide +kernel), List.mem_of_getElem? (i := 240) (by decide +kernel), List.mem_of_getElem? (i := 241) (by decide +kernel)⟩
theorem lw_p19 : lw_okq (⟨"TwoColours", "signingCount", "()I"⟩, 15) := ⟨⟨by decide +kernel, by decide +kernel⟩, List.mem_of_getElem? (i := 7) (by decide +kernel), List.mem_of_getElem? (i := 259) (by decide +kernel), List.mem_of_getElem? (i := 260) (by decide +kernel)⟩
theorem lw_p20 : lw_okq (⟨"TwoColours", "strayOf", "(I)I"⟩, 15) := ⟨⟨by decide +kernel, by decide +kernel⟩, List.mem_of_getElem? (i := 7) (by decide +kernel), List.mem_of_getElem? (i := 263) (by decide +kernel), List.mem_of_getElem? (i := 264) (by decide +kernel)⟩
theorem lw_p21 : lw_okq (⟨"TwoColours", "straightest", "()I"⟩, 15) := ⟨⟨by decide +kernel, by decide +kernel⟩, List.mem_of_getElem? (i := 7) (by decide +kernel), List.mem_of_getElem? (i := 274) (by decide +kernel), List.mem_of_getElem? (i := 275) (by decide +kernel)⟩
theorem lw_p22 : lw_okq (⟨"TwoColours", "nearest", "()I"⟩, 15) := ⟨⟨by decide +kernel, by decide +kernel⟩, List.mem_of_getElem? (i := 7) (by decide +kernel), List.mem_of_getElem? (i := 278) (by decide +kernel), List.mem_of_getElem? (i := 279) (by decide +kernel)⟩
theorem lw_p23 : lw_okq (⟨"TwoColoursModel", "isThing", "(I)Z"⟩, 16) := ⟨⟨by decide +kernel, by decide +kernel⟩, List.mem_of_getElem? (i := 290) (by decide +kernel), List.mem_of_getElem? (i := 356) (by decide +kernel), List.mem_of_getElem? (i := 357) (by decide +kernel)⟩
theorem lw_p24 : lw_okq (⟨"TwoColoursModel", "isWell", "(III)Z"⟩, 16) := ⟨⟨by decide +kernel, by decide +kernel⟩, List.mem_of_getElem? (i := 290) (by decide +kernel), List.mem_of_getElem? (i := 368) (by decide +kernel), List.mem_of_getElem? (i := 369) (by decide +kernel)⟩
theorem lw_p25 : lw_okq (⟨"TwoColoursModel", "isHeap", "(I)Z"⟩, 16) := ⟨⟨by decide +kernel, by decide +kernel⟩, List.mem_of_getElem? (i := 290) (by decide +kernel), List.mem_of_getElem? (i := 380) (by decide +kernel), List.mem_of_getElem? (i := 381) (by decide +kernel)⟩
theorem lw_p26 : lw_okq (⟨"TwoColoursModel", "holds", "(II)Z"⟩, 16) := ⟨⟨by decide +kernel, by decide +kernel⟩, List.mem_of_getElem? (i := 290) (by decide +kernel), List.mem_of_getElem? (i := 387) (by decide +kernel), List.mem_of_getElem? (i := 388) (by decide +kernel)⟩
theorem lw_p27 : lw_okq (⟨"TwoColoursModel", "placeOf", "(I)I"⟩, 16) := ⟨⟨by decide +kernel, by decide +kernel⟩, List.mem_of_getElem? (i := 290) (by decide +kernel), List.mem_of_getElem? (i := 391) (by decide +kernel), List.mem_of_getElem? (i := 392) (by decide +kernel)⟩
theorem lw_p28 : lw_okq (⟨"TwoColoursModel", "bitsOf", "(I)I"⟩, 16) := ⟨⟨by decide +kernel, by decide +kernel⟩, List.mem_of_getElem? (i := 290) (by decide +kernel), List.mem_of_getElem? (i := 399) (by decide +kernel), List.mem_of_getElem? (i := 400) (by decide +kernel)⟩
theorem lw_p29 : lw_okq (⟨"TwoColoursModel", "isColouring", "(I)Z"⟩, 16) := ⟨⟨by decide +kernel, by decide +kernel⟩, List.mem_of_getElem? (i := 290) (by decide +kernel), List.mem_of_getElem? (i := 411) (by decide +kernel), List.mem_of_getElem? (i := 412) (by decide +kernel)⟩
theorem lw_p30 : lw_okq (⟨"TwoColoursModel", "collect", "()V"⟩, 16) := ⟨⟨by decide +kernel, by decide +kernel⟩, List.mem_of_getElem? (i := 290) (by decide +kernel), List.mem_of_getElem? (i := 428) (by decide +kernel), List.mem_of_getElem? (i := 429) (by decide +kernel)⟩
theorem lw_p31 : lw_okq (⟨"TwoColoursModel", "worstOf", "(I)I"⟩, 16) := ⟨⟨by decide +kernel, by decide +kernel⟩, List.mem_of_getElem? (i := 290) (by decide +kernel), List.mem_of_getElem? (i := 432) (by decide +kernel), List.mem_of_getElem? (i := 433) (by decide +kernel)⟩
def lw_privs_2 : List (MethodName × Nat) := [(⟨"TwoColours", "partnerInFirstOrder", "(I)I"⟩, 15), (⟨"TwoColours", "partnerInSecondOrder", "(I)I"⟩, 15), (⟨"TwoColours", "colourOnComing", "(II)I"⟩, 15), (⟨"TwoColours", "signingCount", "()I"⟩, 15), (⟨"TwoColours", "strayOf", "(I)I"⟩, 15), (⟨"TwoColours", "straightest", "()I"⟩, 15), (⟨"TwoColours", "nearest", "()I"⟩, 15), (⟨"TwoColoursModel", "isThing", "(I)Z"⟩, 16), (⟨"TwoColoursModel", "isWell", "(III)Z"⟩, 16), (⟨"TwoColoursModel", "isHeap", "(I)Z"⟩, 16), (⟨"TwoColoursModel", "holds", "(II)Z"⟩, 16), (⟨"TwoColoursModel", "placeOf", "(I)I"⟩, 16), (⟨"TwoColoursModel", "bitsOf", "(I)I"⟩, 16), (⟨"TwoColoursModel", "isColouring", "(I)Z"⟩, 16), (⟨"TwoColoursModel", "collect", "()V"⟩, 16), (⟨"TwoColoursModel", "worstOf", "(I)I"⟩, 16)]
theorem lw_r2 : ∀ q ∈ lw_privs_2, lw_okq q := List.forall_mem_cons.mpr ⟨lw_p16, List.forall_mem_cons.mpr ⟨lw_p17, List.forall_mem_cons.mpr ⟨lw_p18, List.forall_mem_cons.mpr ⟨lw_p19, List.forall_mem_cons.mpr ⟨lw_p20, List.forall_mem_cons.mpr ⟨lw_p21, List.forall_mem_cons.mpr ⟨lw_p22, List.forall_mem_cons.mpr ⟨lw_p23, List.forall_mem_cons.mpr ⟨lw_p24, List.forall_mem_cons.mpr ⟨lw_p25, List.forall_mem_cons.mpr ⟨lw_p26, List.forall_mem_cons.mpr ⟨lw_p27, List.forall_mem_cons.mpr ⟨lw_p28, List.forall_mem_cons.mpr ⟨lw_p29, List.forall_mem_cons.mpr ⟨lw_p30, List.forall_mem_cons.mpr ⟨lw_p31, fun _ h => absurd h List.not_mem_nil⟩⟩⟩⟩⟩⟩⟩⟩⟩⟩⟩⟩⟩⟩⟩⟩
theorem lw_p32 : lw_okq (⟨"TwoColoursModel", "squaresOf", "(I)I"⟩, 16) := ⟨⟨by decide +kernel, by decide +kernel⟩, List.mem_of_getElem? (i := 290) (by decide +kernel), List.mem_of_getElem? (i := 440) (by decide +kernel), List.mem_of_getElem? (i := 441) (by decide +kernel)⟩
theorem lw_p33 : lw_okq (⟨"TwoColoursModel", "goThrough", "()I"⟩, 16) := ⟨⟨by decide +kernel, by decide +kernel⟩, List.mem_of_getElem? (i := 290) (by decide +kernel), List.mem_of_getElem? (i := 452) (by decide +kernel), List.mem_of_getElem? (i := 453) (by decide +kernel)⟩
theorem lw_p34 : lw_okq (⟨"TwoColoursModel", "keeps", "(I)Z"⟩, 16) := ⟨⟨by decide +kernel, by decide +kernel⟩, List.mem_of_getElem? (i := 290) (by decide +kernel), List.mem_of_getElem? (i := 457) (by decide +kernel), List.mem_of_getElem? (i := 458) (by decide +kernel)⟩
theorem lw_p35 : lw_okq (⟨"TwoColoursModel", "partner", "(IZ)I"⟩, 16) := ⟨⟨by decide +kernel, by decide +kernel⟩, List.mem_of_getElem? (i := 290) (by decide +kernel), List.mem_of_getElem? (i := 481) (by decide +kernel), List.mem_of_getElem? (i := 482) (by decide +kernel)⟩
theorem lw_p36 : lw_okq (⟨"TwoColoursModel", "strayOf", "(I)I"⟩, 16) := ⟨⟨by decide +kernel, by decide +kernel⟩, List.mem_of_getElem? (i := 290) (by decide +kernel), List.mem_of_getElem? (i := 501) (by decide +kernel), List.mem_of_getElem? (i := 502) (by decide +kernel)⟩
theorem lw_p37 : lw_okq (⟨"TwoColoursModel", "nearest", "()I"⟩, 16) := ⟨⟨by decide +kernel, by decide +kernel⟩, List.mem_of_getElem? (i := 290) (by decide +kernel), List.mem_of_getElem? (i := 512) (by decide +kernel), List.mem_of_getElem? (i := 513) (by decide +kernel)⟩
def lw_privs_3 : List (MethodName × Nat) := [(⟨"TwoColoursModel", "squaresOf", "(I)I"⟩, 16), (⟨"TwoColoursModel", "goThrough", "()I"⟩, 16), (⟨"TwoColoursModel", "keeps", "(I)Z"⟩, 16), (⟨"TwoColoursModel", "partner", "(IZ)I"⟩, 16), (⟨"TwoColoursModel", "strayOf", "(I)I"⟩, 16), (⟨"TwoColoursModel", "nearest", "()I"⟩, 16)]
theorem lw_r3 : ∀ q ∈ lw_privs_3, lw_okq q := List.forall_mem_cons.mpr ⟨lw_p32, List.forall_mem_cons.mpr ⟨lw_p33, List.forall_mem_cons.mpr ⟨lw_p34, List.forall_mem_cons.mpr ⟨lw_p35, List.forall_mem_cons.mpr ⟨lw_p36, List.forall_mem_cons.mpr ⟨lw_p37, fun _ h => absurd h List.not_mem_nil⟩⟩⟩⟩⟩⟩
def lw_privs : List (MethodName × Nat) := lw_privs_1 ++ (lw_privs_2 ++ (lw_privs_3))
def lw_tbl : List Cond := k2_sels lw_privs ++ tables_1
theorem lw_privs_ok : ∀ q ∈ lw_privs, lw_okq q := by
  show ∀ q ∈ lw_privs_1 ++ (lw_privs_2 ++ (lw_privs_3)), lw_okq q
  exact List.forall_mem_append.mpr ⟨lw_r1, List.forall_mem_append.mpr ⟨lw_r2, lw_r3⟩⟩
-- ===== end of PART A; then your names; then what follows =====
end
section
/-! ===== BEGIN words of one list among another's, by their places ===== -/
theorem goodIn_r {big : List Cond} (ws : List Cond) (ps : List Nat) (hp : ws = ps.filterMap (fun i => big[i]?)) (h : ws.all goodWord = true) : GoodIn big ws := by
  intro w hw
  have h1 := List.all_eq_true.mp h w hw
  rw [hp] at hw
  obtain ⟨i, -, hi⟩ := List.mem_filterMap.mp hw
  have hm : w ∈ big := by first | exact List.mem_of_getElem? hi | exact List.getElem?_mem hi
  exact ⟨hm, good_of_word h1⟩
theorem goodIn_app {big a b : List Cond} (ha : GoodIn big a) (hb : GoodIn big b) : GoodIn big (a ++ b) := fun w h => (List.mem_append.mp h).elim (ha w) (hb w)
theorem goodIn_ca {big a b : List Cond} {c : Cond} (ha : GoodIn big (c :: a)) (hb : GoodIn big b) : GoodIn big (c :: (a ++ b)) := fun w h => (List.mem_cons.mp h).elim (fun e => ha w (List.mem_cons.mpr (Or.inl e))) (fun h => (List.mem_append.mp h).elim (fun h => ha w (List.mem_cons.mpr (Or.inr h))) (hb w))
theorem goodIn_sub {big ws : List Cond} (hm : ∀ w ∈ ws, w ∈ big) (h : ws.all goodWord = true) : GoodIn big ws := fun w hw => ⟨hm w hw, good_of_word (List.all_eq_true.mp h w hw)⟩
/-! ===== END ===== -/

/-! ===== BEGIN printed: names, fields, word lists, decode rows ===== -/
def RX0 : String := "TwoColours"
def TX0 : u_T := fun k => match k with
  | 0 => ("TwoColours", "thingCount", "I", false)
  | 1 => ("TwoColours", "thingAt", "[I", true)
  | 2 => ("TwoColours", "placeOf", "[I", true)
  | 3 => ("TwoColours", "heldThings", "I", false)
  | 4 => ("TwoColours", "heldColours", "I", false)
  | 5 => ("TwoColours", "colourByPairs", "[I", true)
  | 6 => ("TwoColours", "heapCount", "I", false)
  | 7 => ("TwoColours", "heapKind", "[I", true)
  | 8 => ("TwoColours", "heapA", "[I", true)
  | 9 => ("TwoColours", "heapB", "[I", true)
  | 10 => ("TwoColours", "heapBits", "[I", true)
  | 11 => ("TwoColours", "stepCount", "I", false)
  | 12 => ("TwoColours", "stepX", "[I", true)
  | 13 => ("TwoColours", "stepY", "[I", true)
  | _ => ("TwoColours", "asked", "J", false)
def tyX0 : Nat → FieldType := fun k => match k with
  | 0 => .int
  | 1 => .array .int
  | 2 => .array .int
  | 3 => .int
  | 4 => .int
  | 5 => .array .int
  | 6 => .int
  | 7 => .array .int
  | 8 => .array .int
  | 9 => .array .int
  | 10 => .array .int
  | 11 => .int
  | 12 => .array .int
  | 13 => .array .int
  | _ => .long
abbrev wsX00 : List Cond := u_ws RX0 TX0 15
theorem nmX0 : ∀ a, a < 15 → ∀ b, b < 15 → a ≠ b → (TX0 a).2.1 ≠ (TX0 b).2.1 := by decide +kernel
theorem tyX0_ok : ∀ k, k < 15 → parseFieldDescriptor (TX0 k).2.2.1 = some (tyX0 k) := by decide +kernel
abbrev cX0_init : ByteArray := prog_1_method_1_code
def yX0_init : MethodName := ⟨RX0, "<init>", "()V"⟩
abbrev cX0_things : ByteArray := prog_1_method_2_code
def yX0_things : MethodName := ⟨RX0, "things", "(I)I"⟩
abbrev cX0_swap : ByteArray := prog_1_method_3_code
def yX0_swap : MethodName := ⟨RX0, "swap", "(II)I"⟩
abbrev cX0_second : ByteArray := prog_1_method_4_code
def yX0_second : MethodName := ⟨RX0, "second", "(I)I"⟩
abbrev cX0_heap : ByteArray := prog_1_method_5_code
def yX0_heap : MethodName := ⟨RX0, "heap", "(III)I"⟩
abbrev cX0_drop : ByteArray := prog_1_method_6_code
def yX0_drop : MethodName := ⟨RX0, "drop", "()I"⟩
abbrev cX0_has : ByteArray := prog_1_method_7_code
def yX0_has : MethodName := ⟨RX0, "has", "(II)I"⟩
abbrev cX0_bits : ByteArray := prog_1_method_8_code
def yX0_bits : MethodName := ⟨RX0, "bits", "(I)I"⟩
abbrev cX0_hold : ByteArray := prog_1_method_9_code
def yX0_hold : MethodName := ⟨RX0, "hold", "(II)I"⟩
abbrev cX0_orderByNumbers : ByteArray := prog_1_method_10_code
def yX0_orderByNumbers : MethodName := ⟨RX0, "orderByNumbers", "()V"⟩
abbrev cX0_putAt : ByteArray := prog_1_method_11_code
def yX0_putAt : MethodName := ⟨RX0, "putAt", "(II)V"⟩
abbrev cX0_isThing : ByteArray := prog_1_method_12_code
def yX0_isThing : MethodName := ⟨RX0, "isThing", "(I)Z"⟩
abbrev cX0_isHeap : ByteArray := prog_1_method_13_code
def yX0_isHeap : MethodName := ⟨RX0, "isHeap", "(I)Z"⟩
abbrev cX0_isHeld : ByteArray := prog_1_method_14_code
def yX0_isHeld : MethodName := ⟨RX0, "isHeld", "(I)Z"⟩
abbrev cX0_canBeHeap : ByteArray := prog_1_method_15_code
def yX0_canBeHeap : MethodName := ⟨RX0, "canBeHeap", "(III)Z"⟩
abbrev cX0_thingsOf : ByteArray := prog_1_method_16_code
def yX0_thingsOf : MethodName := ⟨RX0, "thingsOf", "(III)I"⟩
abbrev cX0_belongs : ByteArray := prog_1_method_17_code
def yX0_belongs : MethodName := ⟨RX0, "belongs", "(IIII)Z"⟩
abbrev cX0_isWithin : ByteArray := prog_1_method_18_code
def yX0_isWithin : MethodName := ⟨RX0, "isWithin", "(III)Z"⟩
abbrev cX0_traceOf : ByteArray := prog_1_method_19_code
def yX0_traceOf : MethodName := ⟨RX0, "traceOf", "(I)I"⟩
abbrev cX0_bitOf : ByteArray := prog_1_method_20_code
def yX0_bitOf : MethodName := ⟨RX0, "bitOf", "(II)I"⟩
abbrev cX0_off : ByteArray := prog_1_method_21_code
def yX0_off : MethodName := ⟨RX0, "off", "(II)I"⟩
abbrev cX0_worst : ByteArray := prog_1_method_22_code
def yX0_worst : MethodName := ⟨RX0, "worst", "(I)I"⟩
abbrev cX0_squares : ByteArray := prog_1_method_23_code
def yX0_squares : MethodName := ⟨RX0, "squares", "(I)I"⟩
abbrev cX0_times : ByteArray := prog_1_method_24_code
def yX0_times : MethodName := ⟨RX0, "times", "()I"⟩
abbrev cX0_least : ByteArray := prog_1_method_25_code
def yX0_least : MethodName := ⟨RX0, "least", "()I"⟩
abbrev cX0_first : ByteArray := prog_1_method_26_code
def yX0_first : MethodName := ⟨RX0, "first", "()I"⟩
abbrev cX0_many : ByteArray := prog_1_method_27_code
def yX0_many : MethodName := ⟨RX0, "many", "()I"⟩
abbrev cX0_fewest : ByteArray := prog_1_method_28_code
def yX0_fewest : MethodName := ⟨RX0, "fewest", "()I"⟩
abbrev cX0_turns : ByteArray := prog_1_method_29_code
def yX0_turns : MethodName := ⟨RX0, "turns", "()I"⟩
abbrev cX0_pairs : ByteArray := prog_1_method_30_code
def yX0_pairs : MethodName := ⟨RX0, "pairs", "()I"⟩
abbrev cX0_come : ByteArray := prog_1_method_31_code
def yX0_come : MethodName := ⟨RX0, "come", "()I"⟩
abbrev cX0_colouringCount : ByteArray := prog_1_method_32_code
def yX0_colouringCount : MethodName := ⟨RX0, "colouringCount", "()I"⟩
abbrev cX0_isColouring : ByteArray := prog_1_method_33_code
def yX0_isColouring : MethodName := ⟨RX0, "isColouring", "(I)Z"⟩
abbrev cX0_keepsToHeld : ByteArray := prog_1_method_34_code
def yX0_keepsToHeld : MethodName := ⟨RX0, "keepsToHeld", "(I)Z"⟩
abbrev cX0_leaning : ByteArray := prog_1_method_35_code
def yX0_leaning : MethodName := ⟨RX0, "leaning", "(II)I"⟩
abbrev cX0_offOf : ByteArray := prog_1_method_36_code
def yX0_offOf : MethodName := ⟨RX0, "offOf", "(II)I"⟩
abbrev cX0_worstOf : ByteArray := prog_1_method_37_code
def yX0_worstOf : MethodName := ⟨RX0, "worstOf", "(I)I"⟩
abbrev cX0_squaresOf : ByteArray := prog_1_method_38_code
def yX0_squaresOf : MethodName := ⟨RX0, "squaresOf", "(I)I"⟩
abbrev cX0_firstLeast : ByteArray := prog_1_method_39_code
def yX0_firstLeast : MethodName := ⟨RX0, "firstLeast", "()I"⟩
abbrev cX0_colourAlongPairs : ByteArray := prog_1_method_40_code
def yX0_colourAlongPairs : MethodName := ⟨RX0, "colourAlongPairs", "(IZ)V"⟩
abbrev cX0_partnerInFirstOrder : ByteArray := prog_1_method_41_code
def yX0_partnerInFirstOrder : MethodName := ⟨RX0, "partnerInFirstOrder", "(I)I"⟩
abbrev cX0_partnerInSecondOrder : ByteArray := prog_1_method_42_code
def yX0_partnerInSecondOrder : MethodName := ⟨RX0, "partnerInSecondOrder", "(I)I"⟩
abbrev cX0_colourOnComing : ByteArray := prog_1_method_43_code
def yX0_colourOnComing : MethodName := ⟨RX0, "colourOnComing", "(II)I"⟩
abbrev cX0_step : ByteArray := prog_1_method_44_code
def yX0_step : MethodName := ⟨RX0, "step", "(II)I"⟩
abbrev cX0_clear : ByteArray := prog_1_method_45_code
def yX0_clear : MethodName := ⟨RX0, "clear", "()I"⟩
abbrev cX0_stray : ByteArray := prog_1_method_46_code
def yX0_stray : MethodName := ⟨RX0, "stray", "(I)I"⟩
abbrev cX0_straight : ByteArray := prog_1_method_47_code
def yX0_straight : MethodName := ⟨RX0, "straight", "(I)I"⟩
abbrev cX0_count : ByteArray := prog_1_method_48_code
def yX0_count : MethodName := ⟨RX0, "count", "(I)I"⟩
abbrev cX0_trace : ByteArray := prog_1_method_49_code
def yX0_trace : MethodName := ⟨RX0, "trace", "()J"⟩
abbrev cX0_isStepLength : ByteArray := prog_1_method_50_code
def yX0_isStepLength : MethodName := ⟨RX0, "isStepLength", "(I)Z"⟩
abbrev cX0_signingCount : ByteArray := prog_1_method_51_code
def yX0_signingCount : MethodName := ⟨RX0, "signingCount", "()I"⟩
abbrev cX0_greaterSize : ByteArray := prog_1_method_52_code
def yX0_greaterSize : MethodName := ⟨RX0, "greaterSize", "(II)I"⟩
abbrev cX0_strayOf : ByteArray := prog_1_method_53_code
def yX0_strayOf : MethodName := ⟨RX0, "strayOf", "(I)I"⟩
abbrev cX0_straightest : ByteArray := prog_1_method_54_code
def yX0_straightest : MethodName := ⟨RX0, "straightest", "()I"⟩
abbrev cX0_nearest : ByteArray := prog_1_method_55_code
def yX0_nearest : MethodName := ⟨RX0, "nearest", "()I"⟩
def RX1 : String := "TwoColoursModel"
def TX1 : u_T := fun k => match k with
  | 0 => ("TwoColoursModel", "n", "I", false)
  | 1 => ("TwoColoursModel", "second", "[I", true)
  | 2 => ("TwoColoursModel", "held", "[I", true)
  | 3 => ("TwoColoursModel", "heaps", "I", false)
  | 4 => ("TwoColoursModel", "kind", "[I", true)
  | 5 => ("TwoColoursModel", "from", "[I", true)
  | 6 => ("TwoColoursModel", "to", "[I", true)
  | 7 => ("TwoColoursModel", "steps", "I", false)
  | 8 => ("TwoColoursModel", "stepX", "[I", true)
  | 9 => ("TwoColoursModel", "stepY", "[I", true)
  | 10 => ("TwoColoursModel", "trace", "J", false)
  | 11 => ("TwoColoursModel", "heapBits", "[I", true)
  | 12 => ("TwoColoursModel", "foundFirst", "I", false)
  | 13 => ("TwoColoursModel", "foundMany", "I", false)
  | 14 => ("TwoColoursModel", "foundFewest", "I", false)
  | _ => ("TwoColoursModel", "colour", "[I", true)
def tyX1 : Nat → FieldType := fun k => match k with
  | 0 => .int
  | 1 => .array .int
  | 2 => .array .int
  | 3 => .int
  | 4 => .array .int
  | 5 => .array .int
  | 6 => .array .int
  | 7 => .int
  | 8 => .array .int
  | 9 => .array .int
  | 10 => .long
  | 11 => .array .int
  | 12 => .int
  | 13 => .int
  | 14 => .int
  | _ => .array .int
abbrev wsX10 : List Cond := u_ws RX1 TX1 16
theorem nmX1 : ∀ a, a < 16 → ∀ b, b < 16 → a ≠ b → (TX1 a).2.1 ≠ (TX1 b).2.1 := by decide +kernel
theorem tyX1_ok : ∀ k, k < 16 → parseFieldDescriptor (TX1 k).2.2.1 = some (tyX1 k) := by decide +kernel
abbrev cX1_init : ByteArray := prog_3_method_1_code
def yX1_init : MethodName := ⟨RX1, "<init>", "()V"⟩
abbrev cX1_in : ByteArray := prog_3_method_3_code
def yX1_in : MethodName := ⟨RX1, "in", "(III)Z"⟩
abbrev cX1_isThing : ByteArray := prog_3_method_4_code
def yX1_isThing : MethodName := ⟨RX1, "isThing", "(I)Z"⟩
abbrev cX1_things : ByteArray := prog_3_method_5_code
def yX1_things : MethodName := ⟨RX1, "things", "(I)I"⟩
abbrev cX1_swap : ByteArray := prog_3_method_6_code
def yX1_swap : MethodName := ⟨RX1, "swap", "(II)I"⟩
abbrev cX1_second : ByteArray := prog_3_method_7_code
def yX1_second : MethodName := ⟨RX1, "second", "(I)I"⟩
abbrev cX1_isWell : ByteArray := prog_3_method_8_code
def yX1_isWell : MethodName := ⟨RX1, "isWell", "(III)Z"⟩
abbrev cX1_heap : ByteArray := prog_3_method_9_code
def yX1_heap : MethodName := ⟨RX1, "heap", "(III)I"⟩
abbrev cX1_drop : ByteArray := prog_3_method_10_code
def yX1_drop : MethodName := ⟨RX1, "drop", "()I"⟩
abbrev cX1_placeOf : ByteArray := prog_3_method_11_code
def yX1_placeOf : MethodName := ⟨RX1, "placeOf", "(I)I"⟩
abbrev cX1_holds : ByteArray := prog_3_method_12_code
def yX1_holds : MethodName := ⟨RX1, "holds", "(II)Z"⟩
abbrev cX1_isHeap : ByteArray := prog_3_method_13_code
def yX1_isHeap : MethodName := ⟨RX1, "isHeap", "(I)Z"⟩
abbrev cX1_has : ByteArray := prog_3_method_14_code
def yX1_has : MethodName := ⟨RX1, "has", "(II)I"⟩
abbrev cX1_bits : ByteArray := prog_3_method_15_code
def yX1_bits : MethodName := ⟨RX1, "bits", "(I)I"⟩
abbrev cX1_bitsOf : ByteArray := prog_3_method_16_code
def yX1_bitsOf : MethodName := ⟨RX1, "bitsOf", "(I)I"⟩
abbrev cX1_hold : ByteArray := prog_3_method_17_code
def yX1_hold : MethodName := ⟨RX1, "hold", "(II)I"⟩
abbrev cX1_ones : ByteArray := prog_3_method_18_code
def yX1_ones : MethodName := ⟨RX1, "ones", "(I)I"⟩
abbrev cX1_size : ByteArray := prog_3_method_19_code
def yX1_size : MethodName := ⟨RX1, "size", "(I)I"⟩
abbrev cX1_offOf : ByteArray := prog_3_method_20_code
def yX1_offOf : MethodName := ⟨RX1, "offOf", "(II)I"⟩
abbrev cX1_isColouring : ByteArray := prog_3_method_21_code
def yX1_isColouring : MethodName := ⟨RX1, "isColouring", "(I)Z"⟩
abbrev cX1_off : ByteArray := prog_3_method_22_code
def yX1_off : MethodName := ⟨RX1, "off", "(II)I"⟩
abbrev cX1_collect : ByteArray := prog_3_method_23_code
def yX1_collect : MethodName := ⟨RX1, "collect", "()V"⟩
abbrev cX1_worstOf : ByteArray := prog_3_method_24_code
def yX1_worstOf : MethodName := ⟨RX1, "worstOf", "(I)I"⟩
abbrev cX1_squaresOf : ByteArray := prog_3_method_25_code
def yX1_squaresOf : MethodName := ⟨RX1, "squaresOf", "(I)I"⟩
abbrev cX1_worst : ByteArray := prog_3_method_26_code
def yX1_worst : MethodName := ⟨RX1, "worst", "(I)I"⟩
abbrev cX1_squares : ByteArray := prog_3_method_27_code
def yX1_squares : MethodName := ⟨RX1, "squares", "(I)I"⟩
abbrev cX1_times : ByteArray := prog_3_method_28_code
def yX1_times : MethodName := ⟨RX1, "times", "()I"⟩
abbrev cX1_keeps : ByteArray := prog_3_method_29_code
def yX1_keeps : MethodName := ⟨RX1, "keeps", "(I)Z"⟩
abbrev cX1_goThrough : ByteArray := prog_3_method_30_code
def yX1_goThrough : MethodName := ⟨RX1, "goThrough", "()I"⟩
abbrev cX1_least : ByteArray := prog_3_method_31_code
def yX1_least : MethodName := ⟨RX1, "least", "()I"⟩
abbrev cX1_first : ByteArray := prog_3_method_32_code
def yX1_first : MethodName := ⟨RX1, "first", "()I"⟩
abbrev cX1_many : ByteArray := prog_3_method_33_code
def yX1_many : MethodName := ⟨RX1, "many", "()I"⟩
abbrev cX1_fewest : ByteArray := prog_3_method_34_code
def yX1_fewest : MethodName := ⟨RX1, "fewest", "()I"⟩
abbrev cX1_turns : ByteArray := prog_3_method_35_code
def yX1_turns : MethodName := ⟨RX1, "turns", "()I"⟩
abbrev cX1_partner : ByteArray := prog_3_method_36_code
def yX1_partner : MethodName := ⟨RX1, "partner", "(IZ)I"⟩
abbrev cX1_pairs : ByteArray := prog_3_method_37_code
def yX1_pairs : MethodName := ⟨RX1, "pairs", "()I"⟩
abbrev cX1_come : ByteArray := prog_3_method_38_code
def yX1_come : MethodName := ⟨RX1, "come", "()I"⟩
abbrev cX1_step : ByteArray := prog_3_method_39_code
def yX1_step : MethodName := ⟨RX1, "step", "(II)I"⟩
abbrev cX1_clear : ByteArray := prog_3_method_40_code
def yX1_clear : MethodName := ⟨RX1, "clear", "()I"⟩
abbrev cX1_far : ByteArray := prog_3_method_41_code
def yX1_far : MethodName := ⟨RX1, "far", "(II)I"⟩
abbrev cX1_strayOf : ByteArray := prog_3_method_42_code
def yX1_strayOf : MethodName := ⟨RX1, "strayOf", "(I)I"⟩
abbrev cX1_stray : ByteArray := prog_3_method_43_code
def yX1_stray : MethodName := ⟨RX1, "stray", "(I)I"⟩
abbrev cX1_nearest : ByteArray := prog_3_method_44_code
def yX1_nearest : MethodName := ⟨RX1, "nearest", "()I"⟩
abbrev cX1_straight : ByteArray := prog_3_method_45_code
def yX1_straight : MethodName := ⟨RX1, "straight", "(I)I"⟩
abbrev cX1_count : ByteArray := prog_3_method_46_code
def yX1_count : MethodName := ⟨RX1, "count", "(I)I"⟩
abbrev cX1_trace : ByteArray := prog_3_method_47_code
def yX1_trace : MethodName := ⟨RX1, "trace", "()J"⟩
def RJ6 : String := "java/lang/Integer"
def TJ6 : u_T := fun k => match k with
  | _ => ("", "", "", false)
def tyJ6 : Nat → FieldType := fun k => match k with
  | _ => .int
abbrev wsJ60 : List Cond := u_ws RJ6 TJ6 0
theorem nmJ6 : ∀ a, a < 0 → ∀ b, b < 0 → a ≠ b → (TJ6 a).2.1 ≠ (TJ6 b).2.1 := by decide +kernel
theorem tyJ6_ok : ∀ k, k < 0 → parseFieldDescriptor (TJ6 k).2.2.1 = some (tyJ6 k) := by decide +kernel
abbrev cJ6_bitCount_0f7a4 : ByteArray := prog_4_method_49_code
def yJ6_bitCount_0f7a4 : MethodName := ⟨RJ6, "bitCount", "(I)I"⟩
def RJ9 : String := "java/lang/Math"
def TJ9 : u_T := fun k => match k with
  | _ => ("", "", "", false)
def tyJ9 : Nat → FieldType := fun k => match k with
  | _ => .int
abbrev wsJ90 : List Cond := u_ws RJ9 TJ9 0
theorem nmJ9 : ∀ a, a < 0 → ∀ b, b < 0 → a ≠ b → (TJ9 a).2.1 ≠ (TJ9 b).2.1 := by decide +kernel
theorem tyJ9_ok : ∀ k, k < 0 → parseFieldDescriptor (TJ9 k).2.2.1 = some (tyJ9 k) := by decide +kernel
abbrev cJ9_abs_0f7a4 : ByteArray := prog_5_method_59_code
def yJ9_abs_0f7a4 : MethodName := ⟨RJ9, "abs", "(I)I"⟩
abbrev cJ9_max_7cf53 : ByteArray := prog_5_method_65_code
def yJ9_max_7cf53 : MethodName := ⟨RJ9, "max", "(II)I"⟩
abbrev cJ9_min_7cf53 : ByteArray := prog_5_method_69_code
def yJ9_min_7cf53 : MethodName := ⟨RJ9, "min", "(II)I"⟩
def RJ7 : String := "java/util/Arrays"
def TJ7 : u_T := fun k => match k with
  | _ => ("", "", "", false)
def tyJ7 : Nat → FieldType := fun k => match k with
  | _ => .int
abbrev wsJ70 : List Cond := u_ws RJ7 TJ7 0
theorem nmJ7 : ∀ a, a < 0 → ∀ b, b < 0 → a ≠ b → (TJ7 a).2.1 ≠ (TJ7 b).2.1 := by decide +kernel
theorem tyJ7_ok : ∀ k, k < 0 → parseFieldDescriptor (TJ7 k).2.2.1 = some (tyJ7 k) := by decide +kernel
abbrev cJ7_fill_53178 : ByteArray := prog_6_method_103_code
def yJ7_fill_53178 : MethodName := ⟨RJ7, "fill", "([II)V"⟩
def RL : String := "TwoColoursLaw"
abbrev cL_law : ByteArray := code
def yL_law : MethodName := ⟨RL, "law", "([I)Z"⟩
def wsX0_putAt : List Cond := .code yX0_putAt cX0_putAt 3 none :: ([.fieldLink RX0 13 "TwoColours" "thingAt" "[I", .fieldLink RX0 17 "TwoColours" "placeOf" "[I"] ++ wsX00)
def wsX0_orderByNumbers : List Cond := .code yX0_orderByNumbers cX0_orderByNumbers 2 none :: ([.methodLink RX0 64 yX0_putAt, .instanceMethod yX0_putAt, .selects RX0 yX0_putAt yX0_putAt, .initialized RX0, .code yX0_putAt cX0_putAt 3 none, .fieldLink RX0 13 "TwoColours" "thingAt" "[I", .fieldLink RX0 17 "TwoColours" "placeOf" "[I"] ++ wsX00)
def wsX0_init_r1 : List Cond := [Cond.methodLink RX0 1 objectInit, Cond.instanceMethod objectInit, Cond.code objectInit ⟨#[0xb1]⟩ 1 none, Cond.fieldLink RX0 7 "TwoColours" "thingCount" "I", Cond.arrayClass .int, Cond.fieldLink RX0 13 "TwoColours" "thingAt" "[I", Cond.fieldLink RX0 17 "TwoColours" "placeOf" "[I", Cond.fieldLink RX0 20 "TwoColours" "heldThings" "I", Cond.fieldLink RX0 23 "TwoColours" "heldColours" "I", Cond.fieldLink RX0 26 "TwoColours" "colourByPairs" "[I", Cond.fieldLink RX0 29 "TwoColours" "heapCount" "I", Cond.fieldLink RX0 32 "TwoColours" "heapKind" "[I", Cond.fieldLink RX0 35 "TwoColours" "heapA" "[I", Cond.fieldLink RX0 38 "TwoColours" "heapB" "[I", Cond.fieldLink RX0 41 "TwoColours" "heapBits" "[I", Cond.fieldLink RX0 44 "TwoColours" "stepCount" "I", Cond.fieldLink RX0 47 "TwoColours" "stepX" "[I", Cond.fieldLink RX0 50 "TwoColours" "stepY" "[I", Cond.fieldLink RX0 53 "TwoColours" "asked" "J", Cond.methodLink RX0 57 yX0_orderByNumbers, Cond.instanceMethod yX0_orderByNumbers, Cond.selects RX0 yX0_orderByNumbers yX0_orderByNumbers, Cond.initialized RX0, Cond.code yX0_orderByNumbers cX0_orderByNumbers 2 none]
def wsX0_init_r2 : List Cond := [Cond.methodLink RX0 64 yX0_putAt, Cond.instanceMethod yX0_putAt, Cond.selects RX0 yX0_putAt yX0_putAt, Cond.code yX0_putAt cX0_putAt 3 none]
def wsX0_init : List Cond := .code yX0_init cX0_init 1 none :: ((wsX0_init_r1 ++ wsX0_init_r2) ++ wsX00)
def wsX0_things : List Cond := .code yX0_things cX0_things 3 (some .int) :: ([.fieldLink RX0 7 "TwoColours" "thingCount" "I", .fieldLink RX0 20 "TwoColours" "heldThings" "I", .fieldLink RX0 23 "TwoColours" "heldColours" "I", .fieldLink RX0 29 "TwoColours" "heapCount" "I", .methodLink RX0 57 yX0_orderByNumbers, .instanceMethod yX0_orderByNumbers, .selects RX0 yX0_orderByNumbers yX0_orderByNumbers, .initialized RX0, .code yX0_orderByNumbers cX0_orderByNumbers 2 none, .methodLink RX0 64 yX0_putAt, .instanceMethod yX0_putAt, .selects RX0 yX0_putAt yX0_putAt, .code yX0_putAt cX0_putAt 3 none, .fieldLink RX0 13 "TwoColours" "thingAt" "[I", .fieldLink RX0 17 "TwoColours" "placeOf" "[I"] ++ wsX00)
def wsX0_isThing : List Cond := .code yX0_isThing cX0_isThing 2 (some .boolean) :: ([.fieldLink RX0 7 "TwoColours" "thingCount" "I"] ++ wsX00)
def wsX0_isWithin : List Cond := .code yX0_isWithin cX0_isWithin 3 (some .boolean) :: ([])
def wsX0_bitOf : List Cond := .code yX0_bitOf cX0_bitOf 2 (some .int) :: ([])
def wsX0_belongs : List Cond := .code yX0_belongs cX0_belongs 5 (some .boolean) :: ([.fieldLink RX0 17 "TwoColours" "placeOf" "[I", .methodLink RX0 97 yX0_isWithin, .static yX0_isWithin, .initialized RX0, .code yX0_isWithin cX0_isWithin 3 (some .boolean), .methodLink RX0 83 yX0_bitOf, .static yX0_bitOf, .code yX0_bitOf cX0_bitOf 2 (some .int)] ++ wsX00)
def wsX0_thingsOf : List Cond := .code yX0_thingsOf cX0_thingsOf 6 (some .int) :: ([.fieldLink RX0 7 "TwoColours" "thingCount" "I", .methodLink RX0 93 yX0_belongs, .instanceMethod yX0_belongs, .selects RX0 yX0_belongs yX0_belongs, .initialized RX0, .code yX0_belongs cX0_belongs 5 (some .boolean), .fieldLink RX0 17 "TwoColours" "placeOf" "[I", .methodLink RX0 97 yX0_isWithin, .static yX0_isWithin, .code yX0_isWithin cX0_isWithin 3 (some .boolean), .methodLink RX0 83 yX0_bitOf, .static yX0_bitOf, .code yX0_bitOf cX0_bitOf 2 (some .int)] ++ wsX00)
def wsX0_swap_r1 : List Cond := [Cond.fieldLink RX0 13 "TwoColours" "thingAt" "[I", Cond.fieldLink RX0 29 "TwoColours" "heapCount" "I", Cond.fieldLink RX0 41 "TwoColours" "heapBits" "[I", Cond.fieldLink RX0 32 "TwoColours" "heapKind" "[I", Cond.fieldLink RX0 35 "TwoColours" "heapA" "[I", Cond.fieldLink RX0 38 "TwoColours" "heapB" "[I", Cond.methodLink RX0 60 yX0_isThing, Cond.instanceMethod yX0_isThing, Cond.selects RX0 yX0_isThing yX0_isThing, Cond.initialized RX0, Cond.code yX0_isThing cX0_isThing 2 (some .boolean), Cond.fieldLink RX0 7 "TwoColours" "thingCount" "I", Cond.methodLink RX0 64 yX0_putAt, Cond.instanceMethod yX0_putAt, Cond.selects RX0 yX0_putAt yX0_putAt, Cond.code yX0_putAt cX0_putAt 3 none, Cond.fieldLink RX0 17 "TwoColours" "placeOf" "[I", Cond.methodLink RX0 68 yX0_thingsOf, Cond.instanceMethod yX0_thingsOf, Cond.selects RX0 yX0_thingsOf yX0_thingsOf, Cond.code yX0_thingsOf cX0_thingsOf 6 (some .int), Cond.methodLink RX0 93 yX0_belongs, Cond.instanceMethod yX0_belongs, Cond.selects RX0 yX0_belongs yX0_belongs]
def wsX0_swap_r2 : List Cond := [Cond.code yX0_belongs cX0_belongs 5 (some .boolean), Cond.methodLink RX0 97 yX0_isWithin, Cond.static yX0_isWithin, Cond.code yX0_isWithin cX0_isWithin 3 (some .boolean), Cond.methodLink RX0 83 yX0_bitOf, Cond.static yX0_bitOf, Cond.code yX0_bitOf cX0_bitOf 2 (some .int)]
def wsX0_swap : List Cond := .code yX0_swap cX0_swap 6 (some .int) :: ((wsX0_swap_r1 ++ wsX0_swap_r2) ++ wsX00)
def wsX0_second : List Cond := .code yX0_second cX0_second 2 (some .int) :: ([.fieldLink RX0 13 "TwoColours" "thingAt" "[I", .methodLink RX0 60 yX0_isThing, .instanceMethod yX0_isThing, .selects RX0 yX0_isThing yX0_isThing, .initialized RX0, .code yX0_isThing cX0_isThing 2 (some .boolean), .fieldLink RX0 7 "TwoColours" "thingCount" "I"] ++ wsX00)
def wsX0_colouringCount : List Cond := .code yX0_colouringCount cX0_colouringCount 1 (some .int) :: ([.fieldLink RX0 7 "TwoColours" "thingCount" "I"] ++ wsX00)
def wsX0_isColouring : List Cond := .code yX0_isColouring cX0_isColouring 2 (some .boolean) :: ([.methodLink RX0 118 yX0_colouringCount, .instanceMethod yX0_colouringCount, .selects RX0 yX0_colouringCount yX0_colouringCount, .initialized RX0, .code yX0_colouringCount cX0_colouringCount 1 (some .int), .fieldLink RX0 7 "TwoColours" "thingCount" "I"] ++ wsX00)
def wsX0_canBeHeap : List Cond := .code yX0_canBeHeap cX0_canBeHeap 4 (some .boolean) :: ([.methodLink RX0 90 yX0_isColouring, .instanceMethod yX0_isColouring, .selects RX0 yX0_isColouring yX0_isColouring, .initialized RX0, .code yX0_isColouring cX0_isColouring 2 (some .boolean), .methodLink RX0 118 yX0_colouringCount, .instanceMethod yX0_colouringCount, .selects RX0 yX0_colouringCount yX0_colouringCount, .code yX0_colouringCount cX0_colouringCount 1 (some .int), .fieldLink RX0 7 "TwoColours" "thingCount" "I", .methodLink RX0 60 yX0_isThing, .instanceMethod yX0_isThing, .selects RX0 yX0_isThing yX0_isThing, .code yX0_isThing cX0_isThing 2 (some .boolean)] ++ wsX00)
def wsX0_heap_r1 : List Cond := [Cond.fieldLink RX0 29 "TwoColours" "heapCount" "I", Cond.fieldLink RX0 32 "TwoColours" "heapKind" "[I", Cond.fieldLink RX0 35 "TwoColours" "heapA" "[I", Cond.fieldLink RX0 38 "TwoColours" "heapB" "[I", Cond.fieldLink RX0 41 "TwoColours" "heapBits" "[I", Cond.methodLink RX0 72 yX0_canBeHeap, Cond.instanceMethod yX0_canBeHeap, Cond.selects RX0 yX0_canBeHeap yX0_canBeHeap, Cond.initialized RX0, Cond.code yX0_canBeHeap cX0_canBeHeap 4 (some .boolean), Cond.methodLink RX0 90 yX0_isColouring, Cond.instanceMethod yX0_isColouring, Cond.selects RX0 yX0_isColouring yX0_isColouring, Cond.code yX0_isColouring cX0_isColouring 2 (some .boolean), Cond.methodLink RX0 118 yX0_colouringCount, Cond.instanceMethod yX0_colouringCount, Cond.selects RX0 yX0_colouringCount yX0_colouringCount, Cond.code yX0_colouringCount cX0_colouringCount 1 (some .int), Cond.fieldLink RX0 7 "TwoColours" "thingCount" "I", Cond.methodLink RX0 60 yX0_isThing, Cond.instanceMethod yX0_isThing, Cond.selects RX0 yX0_isThing yX0_isThing, Cond.code yX0_isThing cX0_isThing 2 (some .boolean), Cond.methodLink RX0 68 yX0_thingsOf]
def wsX0_heap_r2 : List Cond := [Cond.instanceMethod yX0_thingsOf, Cond.selects RX0 yX0_thingsOf yX0_thingsOf, Cond.code yX0_thingsOf cX0_thingsOf 6 (some .int), Cond.methodLink RX0 93 yX0_belongs, Cond.instanceMethod yX0_belongs, Cond.selects RX0 yX0_belongs yX0_belongs, Cond.code yX0_belongs cX0_belongs 5 (some .boolean), Cond.fieldLink RX0 17 "TwoColours" "placeOf" "[I", Cond.methodLink RX0 97 yX0_isWithin, Cond.static yX0_isWithin, Cond.code yX0_isWithin cX0_isWithin 3 (some .boolean), Cond.methodLink RX0 83 yX0_bitOf, Cond.static yX0_bitOf, Cond.code yX0_bitOf cX0_bitOf 2 (some .int)]
def wsX0_heap : List Cond := .code yX0_heap cX0_heap 5 (some .int) :: ((wsX0_heap_r1 ++ wsX0_heap_r2) ++ wsX00)
def wsX0_drop : List Cond := .code yX0_drop cX0_drop 1 (some .int) :: ([.fieldLink RX0 29 "TwoColours" "heapCount" "I"] ++ wsX00)
def wsX0_isHeap : List Cond := .code yX0_isHeap cX0_isHeap 2 (some .boolean) :: ([.fieldLink RX0 29 "TwoColours" "heapCount" "I"] ++ wsX00)
def wsX0_traceOf : List Cond := .code yX0_traceOf cX0_traceOf 1 (some .int) :: ([])
def wsX0_has : List Cond := .code yX0_has cX0_has 3 (some .int) :: ([.fieldLink RX0 53 "TwoColours" "asked" "J", .fieldLink RX0 32 "TwoColours" "heapKind" "[I", .fieldLink RX0 41 "TwoColours" "heapBits" "[I", .methodLink RX0 76 yX0_isHeap, .instanceMethod yX0_isHeap, .selects RX0 yX0_isHeap yX0_isHeap, .initialized RX0, .code yX0_isHeap cX0_isHeap 2 (some .boolean), .fieldLink RX0 29 "TwoColours" "heapCount" "I", .methodLink RX0 60 yX0_isThing, .instanceMethod yX0_isThing, .selects RX0 yX0_isThing yX0_isThing, .code yX0_isThing cX0_isThing 2 (some .boolean), .fieldLink RX0 7 "TwoColours" "thingCount" "I", .methodLink RX0 79 yX0_traceOf, .static yX0_traceOf, .code yX0_traceOf cX0_traceOf 1 (some .int), .methodLink RX0 83 yX0_bitOf, .static yX0_bitOf, .code yX0_bitOf cX0_bitOf 2 (some .int)] ++ wsX00)
def wsX0_bits : List Cond := .code yX0_bits cX0_bits 2 (some .int) :: ([.fieldLink RX0 41 "TwoColours" "heapBits" "[I", .methodLink RX0 76 yX0_isHeap, .instanceMethod yX0_isHeap, .selects RX0 yX0_isHeap yX0_isHeap, .initialized RX0, .code yX0_isHeap cX0_isHeap 2 (some .boolean), .fieldLink RX0 29 "TwoColours" "heapCount" "I"] ++ wsX00)
def wsX0_isHeld : List Cond := .code yX0_isHeld cX0_isHeld 2 (some .boolean) :: ([.fieldLink RX0 20 "TwoColours" "heldThings" "I", .methodLink RX0 83 yX0_bitOf, .static yX0_bitOf, .initialized RX0, .code yX0_bitOf cX0_bitOf 2 (some .int)] ++ wsX00)
def wsX0_hold : List Cond := .code yX0_hold cX0_hold 5 (some .int) :: ([.fieldLink RX0 23 "TwoColours" "heldColours" "I", .fieldLink RX0 20 "TwoColours" "heldThings" "I", .methodLink RX0 60 yX0_isThing, .instanceMethod yX0_isThing, .selects RX0 yX0_isThing yX0_isThing, .initialized RX0, .code yX0_isThing cX0_isThing 2 (some .boolean), .fieldLink RX0 7 "TwoColours" "thingCount" "I", .methodLink RX0 87 yX0_isHeld, .instanceMethod yX0_isHeld, .selects RX0 yX0_isHeld yX0_isHeld, .code yX0_isHeld cX0_isHeld 2 (some .boolean), .methodLink RX0 83 yX0_bitOf, .static yX0_bitOf, .code yX0_bitOf cX0_bitOf 2 (some .int)] ++ wsX00)
def wsJ6_bitCount_0f7a4 : List Cond := .code yJ6_bitCount_0f7a4 cJ6_bitCount_0f7a4 1 (some .int) :: ([.constant RJ6 265 (1431655765), .constant RJ6 266 (858993459), .constant RJ6 267 (252645135)])
def wsX0_leaning : List Cond := .code yX0_leaning cX0_leaning 2 (some .int) :: ([.methodLink RX0 140 yJ6_bitCount_0f7a4, .static yJ6_bitCount_0f7a4, .initialized RJ6, .code yJ6_bitCount_0f7a4 cJ6_bitCount_0f7a4 1 (some .int), .constant RJ6 265 (1431655765), .constant RJ6 266 (858993459), .constant RJ6 267 (252645135)])
def wsX0_offOf : List Cond := .code yX0_offOf cX0_offOf 3 (some .int) :: ([.fieldLink RX0 41 "TwoColours" "heapBits" "[I", .methodLink RX0 148 Lib.Math.abs.name, .static Lib.Math.abs.name, .initialized "java/lang/Math", .code Lib.Math.abs.name Lib.Math.abs.code 1 (some .int), .methodLink RX0 145 yX0_leaning, .static yX0_leaning, .initialized RX0, .code yX0_leaning cX0_leaning 2 (some .int), .methodLink RX0 140 yJ6_bitCount_0f7a4, .static yJ6_bitCount_0f7a4, .initialized RJ6, .code yJ6_bitCount_0f7a4 cJ6_bitCount_0f7a4 1 (some .int), .constant RJ6 265 (1431655765), .constant RJ6 266 (858993459), .constant RJ6 267 (252645135)] ++ wsX00)
def wsX0_off_r1 : List Cond := [Cond.methodLink RX0 90 yX0_isColouring, Cond.instanceMethod yX0_isColouring, Cond.selects RX0 yX0_isColouring yX0_isColouring, Cond.initialized RX0, Cond.code yX0_isColouring cX0_isColouring 2 (some .boolean), Cond.methodLink RX0 118 yX0_colouringCount, Cond.instanceMethod yX0_colouringCount, Cond.selects RX0 yX0_colouringCount yX0_colouringCount, Cond.code yX0_colouringCount cX0_colouringCount 1 (some .int), Cond.fieldLink RX0 7 "TwoColours" "thingCount" "I", Cond.methodLink RX0 76 yX0_isHeap, Cond.instanceMethod yX0_isHeap, Cond.selects RX0 yX0_isHeap yX0_isHeap, Cond.code yX0_isHeap cX0_isHeap 2 (some .boolean), Cond.fieldLink RX0 29 "TwoColours" "heapCount" "I", Cond.methodLink RX0 100 yX0_offOf, Cond.instanceMethod yX0_offOf, Cond.selects RX0 yX0_offOf yX0_offOf, Cond.code yX0_offOf cX0_offOf 3 (some .int), Cond.fieldLink RX0 41 "TwoColours" "heapBits" "[I", Cond.methodLink RX0 148 Lib.Math.abs.name, Cond.static Lib.Math.abs.name, Cond.initialized "java/lang/Math", Cond.code Lib.Math.abs.name Lib.Math.abs.code 1 (some .int)]
def wsX0_off_r2 : List Cond := [Cond.methodLink RX0 145 yX0_leaning, Cond.static yX0_leaning, Cond.code yX0_leaning cX0_leaning 2 (some .int), Cond.methodLink RX0 140 yJ6_bitCount_0f7a4, Cond.static yJ6_bitCount_0f7a4, Cond.initialized RJ6, Cond.code yJ6_bitCount_0f7a4 cJ6_bitCount_0f7a4 1 (some .int), Cond.constant RJ6 265 (1431655765), Cond.constant RJ6 266 (858993459), Cond.constant RJ6 267 (252645135)]
def wsX0_off : List Cond := .code yX0_off cX0_off 3 (some .int) :: ((wsX0_off_r1 ++ wsX0_off_r2) ++ wsX00)
def wsX0_worstOf : List Cond := .code yX0_worstOf cX0_worstOf 4 (some .int) :: ([.fieldLink RX0 29 "TwoColours" "heapCount" "I", .methodLink RX0 109 Lib.Math.max.name, .static Lib.Math.max.name, .initialized "java/lang/Math", .code Lib.Math.max.name Lib.Math.max.code 2 (some .int), .methodLink RX0 100 yX0_offOf, .instanceMethod yX0_offOf, .selects RX0 yX0_offOf yX0_offOf, .initialized RX0, .code yX0_offOf cX0_offOf 3 (some .int), .fieldLink RX0 41 "TwoColours" "heapBits" "[I", .methodLink RX0 148 Lib.Math.abs.name, .static Lib.Math.abs.name, .code Lib.Math.abs.name Lib.Math.abs.code 1 (some .int), .methodLink RX0 145 yX0_leaning, .static yX0_leaning, .code yX0_leaning cX0_leaning 2 (some .int), .methodLink RX0 140 yJ6_bitCount_0f7a4, .static yJ6_bitCount_0f7a4, .initialized RJ6, .code yJ6_bitCount_0f7a4 cJ6_bitCount_0f7a4 1 (some .int), .constant RJ6 265 (1431655765), .constant RJ6 266 (858993459), .constant RJ6 267 (252645135)] ++ wsX00)
def wsX0_worst_r1 : List Cond := [Cond.methodLink RX0 90 yX0_isColouring, Cond.instanceMethod yX0_isColouring, Cond.selects RX0 yX0_isColouring yX0_isColouring, Cond.initialized RX0, Cond.code yX0_isColouring cX0_isColouring 2 (some .boolean), Cond.methodLink RX0 118 yX0_colouringCount, Cond.instanceMethod yX0_colouringCount, Cond.selects RX0 yX0_colouringCount yX0_colouringCount, Cond.code yX0_colouringCount cX0_colouringCount 1 (some .int), Cond.fieldLink RX0 7 "TwoColours" "thingCount" "I", Cond.methodLink RX0 103 yX0_worstOf, Cond.instanceMethod yX0_worstOf, Cond.selects RX0 yX0_worstOf yX0_worstOf, Cond.code yX0_worstOf cX0_worstOf 4 (some .int), Cond.fieldLink RX0 29 "TwoColours" "heapCount" "I", Cond.methodLink RX0 109 Lib.Math.max.name, Cond.static Lib.Math.max.name, Cond.initialized "java/lang/Math", Cond.code Lib.Math.max.name Lib.Math.max.code 2 (some .int), Cond.methodLink RX0 100 yX0_offOf, Cond.instanceMethod yX0_offOf, Cond.selects RX0 yX0_offOf yX0_offOf, Cond.code yX0_offOf cX0_offOf 3 (some .int), Cond.fieldLink RX0 41 "TwoColours" "heapBits" "[I"]
def wsX0_worst_r2 : List Cond := [Cond.methodLink RX0 148 Lib.Math.abs.name, Cond.static Lib.Math.abs.name, Cond.code Lib.Math.abs.name Lib.Math.abs.code 1 (some .int), Cond.methodLink RX0 145 yX0_leaning, Cond.static yX0_leaning, Cond.code yX0_leaning cX0_leaning 2 (some .int), Cond.methodLink RX0 140 yJ6_bitCount_0f7a4, Cond.static yJ6_bitCount_0f7a4, Cond.initialized RJ6, Cond.code yJ6_bitCount_0f7a4 cJ6_bitCount_0f7a4 1 (some .int), Cond.constant RJ6 265 (1431655765), Cond.constant RJ6 266 (858993459), Cond.constant RJ6 267 (252645135)]
def wsX0_worst : List Cond := .code yX0_worst cX0_worst 2 (some .int) :: ((wsX0_worst_r1 ++ wsX0_worst_r2) ++ wsX00)
def wsX0_squaresOf : List Cond := .code yX0_squaresOf cX0_squaresOf 5 (some .int) :: ([.fieldLink RX0 29 "TwoColours" "heapCount" "I", .methodLink RX0 100 yX0_offOf, .instanceMethod yX0_offOf, .selects RX0 yX0_offOf yX0_offOf, .initialized RX0, .code yX0_offOf cX0_offOf 3 (some .int), .fieldLink RX0 41 "TwoColours" "heapBits" "[I", .methodLink RX0 148 Lib.Math.abs.name, .static Lib.Math.abs.name, .initialized "java/lang/Math", .code Lib.Math.abs.name Lib.Math.abs.code 1 (some .int), .methodLink RX0 145 yX0_leaning, .static yX0_leaning, .code yX0_leaning cX0_leaning 2 (some .int), .methodLink RX0 140 yJ6_bitCount_0f7a4, .static yJ6_bitCount_0f7a4, .initialized RJ6, .code yJ6_bitCount_0f7a4 cJ6_bitCount_0f7a4 1 (some .int), .constant RJ6 265 (1431655765), .constant RJ6 266 (858993459), .constant RJ6 267 (252645135)] ++ wsX00)
def wsX0_squares_r1 : List Cond := [Cond.methodLink RX0 90 yX0_isColouring, Cond.instanceMethod yX0_isColouring, Cond.selects RX0 yX0_isColouring yX0_isColouring, Cond.initialized RX0, Cond.code yX0_isColouring cX0_isColouring 2 (some .boolean), Cond.methodLink RX0 118 yX0_colouringCount, Cond.instanceMethod yX0_colouringCount, Cond.selects RX0 yX0_colouringCount yX0_colouringCount, Cond.code yX0_colouringCount cX0_colouringCount 1 (some .int), Cond.fieldLink RX0 7 "TwoColours" "thingCount" "I", Cond.methodLink RX0 106 yX0_squaresOf, Cond.instanceMethod yX0_squaresOf, Cond.selects RX0 yX0_squaresOf yX0_squaresOf, Cond.code yX0_squaresOf cX0_squaresOf 5 (some .int), Cond.fieldLink RX0 29 "TwoColours" "heapCount" "I", Cond.methodLink RX0 100 yX0_offOf, Cond.instanceMethod yX0_offOf, Cond.selects RX0 yX0_offOf yX0_offOf, Cond.code yX0_offOf cX0_offOf 3 (some .int), Cond.fieldLink RX0 41 "TwoColours" "heapBits" "[I", Cond.methodLink RX0 148 Lib.Math.abs.name, Cond.static Lib.Math.abs.name, Cond.initialized "java/lang/Math", Cond.code Lib.Math.abs.name Lib.Math.abs.code 1 (some .int)]
def wsX0_squares_r2 : List Cond := [Cond.methodLink RX0 145 yX0_leaning, Cond.static yX0_leaning, Cond.code yX0_leaning cX0_leaning 2 (some .int), Cond.methodLink RX0 140 yJ6_bitCount_0f7a4, Cond.static yJ6_bitCount_0f7a4, Cond.initialized RJ6, Cond.code yJ6_bitCount_0f7a4 cJ6_bitCount_0f7a4 1 (some .int), Cond.constant RJ6 265 (1431655765), Cond.constant RJ6 266 (858993459), Cond.constant RJ6 267 (252645135)]
def wsX0_squares : List Cond := .code yX0_squares cX0_squares 2 (some .int) :: ((wsX0_squares_r1 ++ wsX0_squares_r2) ++ wsX00)
def wsX0_times : List Cond := .code yX0_times cX0_times 5 (some .int) :: ([.fieldLink RX0 7 "TwoColours" "thingCount" "I", .fieldLink RX0 29 "TwoColours" "heapCount" "I", .fieldLink RX0 41 "TwoColours" "heapBits" "[I", .methodLink RX0 109 Lib.Math.max.name, .static Lib.Math.max.name, .initialized "java/lang/Math", .code Lib.Math.max.name Lib.Math.max.code 2 (some .int), .methodLink RX0 83 yX0_bitOf, .static yX0_bitOf, .initialized RX0, .code yX0_bitOf cX0_bitOf 2 (some .int)] ++ wsX00)
def wsX0_keepsToHeld : List Cond := .code yX0_keepsToHeld cX0_keepsToHeld 2 (some .boolean) :: ([.fieldLink RX0 20 "TwoColours" "heldThings" "I", .fieldLink RX0 23 "TwoColours" "heldColours" "I"] ++ wsX00)
def wsX0_firstLeast_r1 : List Cond := [Cond.fieldLink RX0 23 "TwoColours" "heldColours" "I", Cond.methodLink RX0 103 yX0_worstOf, Cond.instanceMethod yX0_worstOf, Cond.selects RX0 yX0_worstOf yX0_worstOf, Cond.initialized RX0, Cond.code yX0_worstOf cX0_worstOf 4 (some .int), Cond.fieldLink RX0 29 "TwoColours" "heapCount" "I", Cond.methodLink RX0 109 Lib.Math.max.name, Cond.static Lib.Math.max.name, Cond.initialized "java/lang/Math", Cond.code Lib.Math.max.name Lib.Math.max.code 2 (some .int), Cond.methodLink RX0 100 yX0_offOf, Cond.instanceMethod yX0_offOf, Cond.selects RX0 yX0_offOf yX0_offOf, Cond.code yX0_offOf cX0_offOf 3 (some .int), Cond.fieldLink RX0 41 "TwoColours" "heapBits" "[I", Cond.methodLink RX0 148 Lib.Math.abs.name, Cond.static Lib.Math.abs.name, Cond.code Lib.Math.abs.name Lib.Math.abs.code 1 (some .int), Cond.methodLink RX0 145 yX0_leaning, Cond.static yX0_leaning, Cond.code yX0_leaning cX0_leaning 2 (some .int), Cond.methodLink RX0 140 yJ6_bitCount_0f7a4, Cond.static yJ6_bitCount_0f7a4]
def wsX0_firstLeast_r2 : List Cond := [Cond.initialized RJ6, Cond.code yJ6_bitCount_0f7a4 cJ6_bitCount_0f7a4 1 (some .int), Cond.constant RJ6 265 (1431655765), Cond.constant RJ6 266 (858993459), Cond.constant RJ6 267 (252645135), Cond.methodLink RX0 118 yX0_colouringCount, Cond.instanceMethod yX0_colouringCount, Cond.selects RX0 yX0_colouringCount yX0_colouringCount, Cond.code yX0_colouringCount cX0_colouringCount 1 (some .int), Cond.fieldLink RX0 7 "TwoColours" "thingCount" "I", Cond.methodLink RX0 121 yX0_keepsToHeld, Cond.instanceMethod yX0_keepsToHeld, Cond.selects RX0 yX0_keepsToHeld yX0_keepsToHeld, Cond.code yX0_keepsToHeld cX0_keepsToHeld 2 (some .boolean), Cond.fieldLink RX0 20 "TwoColours" "heldThings" "I"]
def wsX0_firstLeast : List Cond := .code yX0_firstLeast cX0_firstLeast 5 (some .int) :: ((wsX0_firstLeast_r1 ++ wsX0_firstLeast_r2) ++ wsX00)
def wsX0_least_r1 : List Cond := [Cond.methodLink RX0 114 yX0_firstLeast, Cond.instanceMethod yX0_firstLeast, Cond.selects RX0 yX0_firstLeast yX0_firstLeast, Cond.initialized RX0, Cond.code yX0_firstLeast cX0_firstLeast 5 (some .int), Cond.fieldLink RX0 23 "TwoColours" "heldColours" "I", Cond.methodLink RX0 103 yX0_worstOf, Cond.instanceMethod yX0_worstOf, Cond.selects RX0 yX0_worstOf yX0_worstOf, Cond.code yX0_worstOf cX0_worstOf 4 (some .int), Cond.fieldLink RX0 29 "TwoColours" "heapCount" "I", Cond.methodLink RX0 109 Lib.Math.max.name, Cond.static Lib.Math.max.name, Cond.initialized "java/lang/Math", Cond.code Lib.Math.max.name Lib.Math.max.code 2 (some .int), Cond.methodLink RX0 100 yX0_offOf, Cond.instanceMethod yX0_offOf, Cond.selects RX0 yX0_offOf yX0_offOf, Cond.code yX0_offOf cX0_offOf 3 (some .int), Cond.fieldLink RX0 41 "TwoColours" "heapBits" "[I", Cond.methodLink RX0 148 Lib.Math.abs.name, Cond.static Lib.Math.abs.name, Cond.code Lib.Math.abs.name Lib.Math.abs.code 1 (some .int), Cond.methodLink RX0 145 yX0_leaning]
def wsX0_least_r2 : List Cond := [Cond.static yX0_leaning, Cond.code yX0_leaning cX0_leaning 2 (some .int), Cond.methodLink RX0 140 yJ6_bitCount_0f7a4, Cond.static yJ6_bitCount_0f7a4, Cond.initialized RJ6, Cond.code yJ6_bitCount_0f7a4 cJ6_bitCount_0f7a4 1 (some .int), Cond.constant RJ6 265 (1431655765), Cond.constant RJ6 266 (858993459), Cond.constant RJ6 267 (252645135), Cond.methodLink RX0 118 yX0_colouringCount, Cond.instanceMethod yX0_colouringCount, Cond.selects RX0 yX0_colouringCount yX0_colouringCount, Cond.code yX0_colouringCount cX0_colouringCount 1 (some .int), Cond.fieldLink RX0 7 "TwoColours" "thingCount" "I", Cond.methodLink RX0 121 yX0_keepsToHeld, Cond.instanceMethod yX0_keepsToHeld, Cond.selects RX0 yX0_keepsToHeld yX0_keepsToHeld, Cond.code yX0_keepsToHeld cX0_keepsToHeld 2 (some .boolean), Cond.fieldLink RX0 20 "TwoColours" "heldThings" "I"]
def wsX0_least : List Cond := .code yX0_least cX0_least 1 (some .int) :: ((wsX0_least_r1 ++ wsX0_least_r2) ++ wsX00)
def wsX0_first_r1 : List Cond := [Cond.methodLink RX0 114 yX0_firstLeast, Cond.instanceMethod yX0_firstLeast, Cond.selects RX0 yX0_firstLeast yX0_firstLeast, Cond.initialized RX0, Cond.code yX0_firstLeast cX0_firstLeast 5 (some .int), Cond.fieldLink RX0 23 "TwoColours" "heldColours" "I", Cond.methodLink RX0 103 yX0_worstOf, Cond.instanceMethod yX0_worstOf, Cond.selects RX0 yX0_worstOf yX0_worstOf, Cond.code yX0_worstOf cX0_worstOf 4 (some .int), Cond.fieldLink RX0 29 "TwoColours" "heapCount" "I", Cond.methodLink RX0 109 Lib.Math.max.name, Cond.static Lib.Math.max.name, Cond.initialized "java/lang/Math", Cond.code Lib.Math.max.name Lib.Math.max.code 2 (some .int), Cond.methodLink RX0 100 yX0_offOf, Cond.instanceMethod yX0_offOf, Cond.selects RX0 yX0_offOf yX0_offOf, Cond.code yX0_offOf cX0_offOf 3 (some .int), Cond.fieldLink RX0 41 "TwoColours" "heapBits" "[I", Cond.methodLink RX0 148 Lib.Math.abs.name, Cond.static Lib.Math.abs.name, Cond.code Lib.Math.abs.name Lib.Math.abs.code 1 (some .int), Cond.methodLink RX0 145 yX0_leaning]
def wsX0_first_r2 : List Cond := [Cond.static yX0_leaning, Cond.code yX0_leaning cX0_leaning 2 (some .int), Cond.methodLink RX0 140 yJ6_bitCount_0f7a4, Cond.static yJ6_bitCount_0f7a4, Cond.initialized RJ6, Cond.code yJ6_bitCount_0f7a4 cJ6_bitCount_0f7a4 1 (some .int), Cond.constant RJ6 265 (1431655765), Cond.constant RJ6 266 (858993459), Cond.constant RJ6 267 (252645135), Cond.methodLink RX0 118 yX0_colouringCount, Cond.instanceMethod yX0_colouringCount, Cond.selects RX0 yX0_colouringCount yX0_colouringCount, Cond.code yX0_colouringCount cX0_colouringCount 1 (some .int), Cond.fieldLink RX0 7 "TwoColours" "thingCount" "I", Cond.methodLink RX0 121 yX0_keepsToHeld, Cond.instanceMethod yX0_keepsToHeld, Cond.selects RX0 yX0_keepsToHeld yX0_keepsToHeld, Cond.code yX0_keepsToHeld cX0_keepsToHeld 2 (some .boolean), Cond.fieldLink RX0 20 "TwoColours" "heldThings" "I"]
def wsX0_first : List Cond := .code yX0_first cX0_first 1 (some .int) :: ((wsX0_first_r1 ++ wsX0_first_r2) ++ wsX00)
def wsX0_many_r1 : List Cond := [Cond.methodLink RX0 114 yX0_firstLeast, Cond.instanceMethod yX0_firstLeast, Cond.selects RX0 yX0_firstLeast yX0_firstLeast, Cond.initialized RX0, Cond.code yX0_firstLeast cX0_firstLeast 5 (some .int), Cond.fieldLink RX0 23 "TwoColours" "heldColours" "I", Cond.methodLink RX0 103 yX0_worstOf, Cond.instanceMethod yX0_worstOf, Cond.selects RX0 yX0_worstOf yX0_worstOf, Cond.code yX0_worstOf cX0_worstOf 4 (some .int), Cond.fieldLink RX0 29 "TwoColours" "heapCount" "I", Cond.methodLink RX0 109 Lib.Math.max.name, Cond.static Lib.Math.max.name, Cond.initialized "java/lang/Math", Cond.code Lib.Math.max.name Lib.Math.max.code 2 (some .int), Cond.methodLink RX0 100 yX0_offOf, Cond.instanceMethod yX0_offOf, Cond.selects RX0 yX0_offOf yX0_offOf, Cond.code yX0_offOf cX0_offOf 3 (some .int), Cond.fieldLink RX0 41 "TwoColours" "heapBits" "[I", Cond.methodLink RX0 148 Lib.Math.abs.name, Cond.static Lib.Math.abs.name, Cond.code Lib.Math.abs.name Lib.Math.abs.code 1 (some .int), Cond.methodLink RX0 145 yX0_leaning]
def wsX0_many_r2 : List Cond := [Cond.static yX0_leaning, Cond.code yX0_leaning cX0_leaning 2 (some .int), Cond.methodLink RX0 140 yJ6_bitCount_0f7a4, Cond.static yJ6_bitCount_0f7a4, Cond.initialized RJ6, Cond.code yJ6_bitCount_0f7a4 cJ6_bitCount_0f7a4 1 (some .int), Cond.constant RJ6 265 (1431655765), Cond.constant RJ6 266 (858993459), Cond.constant RJ6 267 (252645135), Cond.methodLink RX0 118 yX0_colouringCount, Cond.instanceMethod yX0_colouringCount, Cond.selects RX0 yX0_colouringCount yX0_colouringCount, Cond.code yX0_colouringCount cX0_colouringCount 1 (some .int), Cond.fieldLink RX0 7 "TwoColours" "thingCount" "I", Cond.methodLink RX0 121 yX0_keepsToHeld, Cond.instanceMethod yX0_keepsToHeld, Cond.selects RX0 yX0_keepsToHeld yX0_keepsToHeld, Cond.code yX0_keepsToHeld cX0_keepsToHeld 2 (some .boolean), Cond.fieldLink RX0 20 "TwoColours" "heldThings" "I"]
def wsX0_many : List Cond := .code yX0_many cX0_many 5 (some .int) :: ((wsX0_many_r1 ++ wsX0_many_r2) ++ wsX00)
def wsX0_fewest_r1 : List Cond := [Cond.fieldLink RX0 23 "TwoColours" "heldColours" "I", Cond.methodLink RX0 124 Lib.Math.min.name, Cond.static Lib.Math.min.name, Cond.initialized "java/lang/Math", Cond.code Lib.Math.min.name Lib.Math.min.code 2 (some .int), Cond.methodLink RX0 106 yX0_squaresOf, Cond.instanceMethod yX0_squaresOf, Cond.selects RX0 yX0_squaresOf yX0_squaresOf, Cond.initialized RX0, Cond.code yX0_squaresOf cX0_squaresOf 5 (some .int), Cond.fieldLink RX0 29 "TwoColours" "heapCount" "I", Cond.methodLink RX0 100 yX0_offOf, Cond.instanceMethod yX0_offOf, Cond.selects RX0 yX0_offOf yX0_offOf, Cond.code yX0_offOf cX0_offOf 3 (some .int), Cond.fieldLink RX0 41 "TwoColours" "heapBits" "[I", Cond.methodLink RX0 148 Lib.Math.abs.name, Cond.static Lib.Math.abs.name, Cond.code Lib.Math.abs.name Lib.Math.abs.code 1 (some .int), Cond.methodLink RX0 145 yX0_leaning, Cond.static yX0_leaning, Cond.code yX0_leaning cX0_leaning 2 (some .int), Cond.methodLink RX0 140 yJ6_bitCount_0f7a4, Cond.static yJ6_bitCount_0f7a4]
def wsX0_fewest_r2 : List Cond := [Cond.initialized RJ6, Cond.code yJ6_bitCount_0f7a4 cJ6_bitCount_0f7a4 1 (some .int), Cond.constant RJ6 265 (1431655765), Cond.constant RJ6 266 (858993459), Cond.constant RJ6 267 (252645135), Cond.methodLink RX0 118 yX0_colouringCount, Cond.instanceMethod yX0_colouringCount, Cond.selects RX0 yX0_colouringCount yX0_colouringCount, Cond.code yX0_colouringCount cX0_colouringCount 1 (some .int), Cond.fieldLink RX0 7 "TwoColours" "thingCount" "I", Cond.methodLink RX0 121 yX0_keepsToHeld, Cond.instanceMethod yX0_keepsToHeld, Cond.selects RX0 yX0_keepsToHeld yX0_keepsToHeld, Cond.code yX0_keepsToHeld cX0_keepsToHeld 2 (some .boolean), Cond.fieldLink RX0 20 "TwoColours" "heldThings" "I"]
def wsX0_fewest : List Cond := .code yX0_fewest cX0_fewest 3 (some .int) :: ((wsX0_fewest_r1 ++ wsX0_fewest_r2) ++ wsX00)
def wsX0_turns : List Cond := .code yX0_turns cX0_turns 3 (some .int) :: ([.fieldLink RX0 7 "TwoColours" "thingCount" "I"] ++ wsX00)
def wsJ7_fill_53178 : List Cond := .code yJ7_fill_53178 cJ7_fill_53178 4 none :: ([])
def wsX0_partnerInFirstOrder : List Cond := .code yX0_partnerInFirstOrder cX0_partnerInFirstOrder 3 (some .int) :: ([.methodLink RX0 60 yX0_isThing, .instanceMethod yX0_isThing, .selects RX0 yX0_isThing yX0_isThing, .initialized RX0, .code yX0_isThing cX0_isThing 2 (some .boolean), .fieldLink RX0 7 "TwoColours" "thingCount" "I"] ++ wsX00)
def wsX0_partnerInSecondOrder : List Cond := .code yX0_partnerInSecondOrder cX0_partnerInSecondOrder 3 (some .int) :: ([.fieldLink RX0 17 "TwoColours" "placeOf" "[I", .fieldLink RX0 13 "TwoColours" "thingAt" "[I", .methodLink RX0 60 yX0_isThing, .instanceMethod yX0_isThing, .selects RX0 yX0_isThing yX0_isThing, .initialized RX0, .code yX0_isThing cX0_isThing 2 (some .boolean), .fieldLink RX0 7 "TwoColours" "thingCount" "I"] ++ wsX00)
def wsX0_colourAlongPairs : List Cond := .code yX0_colourAlongPairs cX0_colourAlongPairs 7 none :: ([.fieldLink RX0 7 "TwoColours" "thingCount" "I", .fieldLink RX0 26 "TwoColours" "colourByPairs" "[I", .methodLink RX0 151 yX0_partnerInFirstOrder, .instanceMethod yX0_partnerInFirstOrder, .selects RX0 yX0_partnerInFirstOrder yX0_partnerInFirstOrder, .initialized RX0, .code yX0_partnerInFirstOrder cX0_partnerInFirstOrder 3 (some .int), .methodLink RX0 60 yX0_isThing, .instanceMethod yX0_isThing, .selects RX0 yX0_isThing yX0_isThing, .code yX0_isThing cX0_isThing 2 (some .boolean), .methodLink RX0 154 yX0_partnerInSecondOrder, .instanceMethod yX0_partnerInSecondOrder, .selects RX0 yX0_partnerInSecondOrder yX0_partnerInSecondOrder, .code yX0_partnerInSecondOrder cX0_partnerInSecondOrder 3 (some .int), .fieldLink RX0 17 "TwoColours" "placeOf" "[I", .fieldLink RX0 13 "TwoColours" "thingAt" "[I"] ++ wsX00)
def wsX0_pairs_r1 : List Cond := [Cond.fieldLink RX0 26 "TwoColours" "colourByPairs" "[I", Cond.fieldLink RX0 7 "TwoColours" "thingCount" "I", Cond.methodLink RX0 127 yJ7_fill_53178, Cond.static yJ7_fill_53178, Cond.initialized RJ7, Cond.code yJ7_fill_53178 cJ7_fill_53178 4 none, Cond.methodLink RX0 133 yX0_colourAlongPairs, Cond.instanceMethod yX0_colourAlongPairs, Cond.selects RX0 yX0_colourAlongPairs yX0_colourAlongPairs, Cond.initialized RX0, Cond.code yX0_colourAlongPairs cX0_colourAlongPairs 7 none, Cond.methodLink RX0 151 yX0_partnerInFirstOrder, Cond.instanceMethod yX0_partnerInFirstOrder, Cond.selects RX0 yX0_partnerInFirstOrder yX0_partnerInFirstOrder, Cond.code yX0_partnerInFirstOrder cX0_partnerInFirstOrder 3 (some .int), Cond.methodLink RX0 60 yX0_isThing, Cond.instanceMethod yX0_isThing, Cond.selects RX0 yX0_isThing yX0_isThing, Cond.code yX0_isThing cX0_isThing 2 (some .boolean), Cond.methodLink RX0 154 yX0_partnerInSecondOrder, Cond.instanceMethod yX0_partnerInSecondOrder, Cond.selects RX0 yX0_partnerInSecondOrder yX0_partnerInSecondOrder, Cond.code yX0_partnerInSecondOrder cX0_partnerInSecondOrder 3 (some .int), Cond.fieldLink RX0 17 "TwoColours" "placeOf" "[I"]
def wsX0_pairs_r2 : List Cond := [Cond.fieldLink RX0 13 "TwoColours" "thingAt" "[I"]
def wsX0_pairs : List Cond := .code yX0_pairs cX0_pairs 3 (some .int) :: ((wsX0_pairs_r1 ++ wsX0_pairs_r2) ++ wsX00)
def wsX0_colourOnComing : List Cond := .code yX0_colourOnComing cX0_colourOnComing 6 (some .int) :: ([.fieldLink RX0 23 "TwoColours" "heldColours" "I", .fieldLink RX0 29 "TwoColours" "heapCount" "I", .fieldLink RX0 41 "TwoColours" "heapBits" "[I", .methodLink RX0 87 yX0_isHeld, .instanceMethod yX0_isHeld, .selects RX0 yX0_isHeld yX0_isHeld, .initialized RX0, .code yX0_isHeld cX0_isHeld 2 (some .boolean), .fieldLink RX0 20 "TwoColours" "heldThings" "I", .methodLink RX0 83 yX0_bitOf, .static yX0_bitOf, .code yX0_bitOf cX0_bitOf 2 (some .int), .methodLink RX0 145 yX0_leaning, .static yX0_leaning, .code yX0_leaning cX0_leaning 2 (some .int), .methodLink RX0 140 yJ6_bitCount_0f7a4, .static yJ6_bitCount_0f7a4, .initialized RJ6, .code yJ6_bitCount_0f7a4 cJ6_bitCount_0f7a4 1 (some .int), .constant RJ6 265 (1431655765), .constant RJ6 266 (858993459), .constant RJ6 267 (252645135)] ++ wsX00)
def wsX0_come_r1 : List Cond := [Cond.fieldLink RX0 7 "TwoColours" "thingCount" "I", Cond.methodLink RX0 137 yX0_colourOnComing, Cond.instanceMethod yX0_colourOnComing, Cond.selects RX0 yX0_colourOnComing yX0_colourOnComing, Cond.initialized RX0, Cond.code yX0_colourOnComing cX0_colourOnComing 6 (some .int), Cond.fieldLink RX0 23 "TwoColours" "heldColours" "I", Cond.fieldLink RX0 29 "TwoColours" "heapCount" "I", Cond.fieldLink RX0 41 "TwoColours" "heapBits" "[I", Cond.methodLink RX0 87 yX0_isHeld, Cond.instanceMethod yX0_isHeld, Cond.selects RX0 yX0_isHeld yX0_isHeld, Cond.code yX0_isHeld cX0_isHeld 2 (some .boolean), Cond.fieldLink RX0 20 "TwoColours" "heldThings" "I", Cond.methodLink RX0 83 yX0_bitOf, Cond.static yX0_bitOf, Cond.code yX0_bitOf cX0_bitOf 2 (some .int), Cond.methodLink RX0 145 yX0_leaning, Cond.static yX0_leaning, Cond.code yX0_leaning cX0_leaning 2 (some .int), Cond.methodLink RX0 140 yJ6_bitCount_0f7a4, Cond.static yJ6_bitCount_0f7a4, Cond.initialized RJ6, Cond.code yJ6_bitCount_0f7a4 cJ6_bitCount_0f7a4 1 (some .int)]
def wsX0_come_r2 : List Cond := [Cond.constant RJ6 265 (1431655765), Cond.constant RJ6 266 (858993459), Cond.constant RJ6 267 (252645135)]
def wsX0_come : List Cond := .code yX0_come cX0_come 3 (some .int) :: ((wsX0_come_r1 ++ wsX0_come_r2) ++ wsX00)
def wsX0_isStepLength : List Cond := .code yX0_isStepLength cX0_isStepLength 1 (some .boolean) :: ([])
def wsX0_step : List Cond := .code yX0_step cX0_step 4 (some .int) :: ([.fieldLink RX0 44 "TwoColours" "stepCount" "I", .fieldLink RX0 47 "TwoColours" "stepX" "[I", .fieldLink RX0 50 "TwoColours" "stepY" "[I", .methodLink RX0 157 yX0_isStepLength, .static yX0_isStepLength, .initialized RX0, .code yX0_isStepLength cX0_isStepLength 1 (some .boolean)] ++ wsX00)
def wsX0_clear : List Cond := .code yX0_clear cX0_clear 2 (some .int) :: ([.fieldLink RX0 44 "TwoColours" "stepCount" "I"] ++ wsX00)
def wsX0_signingCount : List Cond := .code yX0_signingCount cX0_signingCount 1 (some .int) :: ([.fieldLink RX0 44 "TwoColours" "stepCount" "I"] ++ wsX00)
def wsX0_greaterSize : List Cond := .code yX0_greaterSize cX0_greaterSize 2 (some .int) :: ([.methodLink RX0 148 Lib.Math.abs.name, .static Lib.Math.abs.name, .initialized "java/lang/Math", .code Lib.Math.abs.name Lib.Math.abs.code 1 (some .int), .methodLink RX0 109 Lib.Math.max.name, .static Lib.Math.max.name, .code Lib.Math.max.name Lib.Math.max.code 2 (some .int)])
def wsX0_strayOf : List Cond := .code yX0_strayOf cX0_strayOf 7 (some .int) :: ([.fieldLink RX0 44 "TwoColours" "stepCount" "I", .fieldLink RX0 47 "TwoColours" "stepX" "[I", .fieldLink RX0 50 "TwoColours" "stepY" "[I", .methodLink RX0 109 Lib.Math.max.name, .static Lib.Math.max.name, .initialized "java/lang/Math", .code Lib.Math.max.name Lib.Math.max.code 2 (some .int), .methodLink RX0 83 yX0_bitOf, .static yX0_bitOf, .initialized RX0, .code yX0_bitOf cX0_bitOf 2 (some .int), .methodLink RX0 172 yX0_greaterSize, .static yX0_greaterSize, .code yX0_greaterSize cX0_greaterSize 2 (some .int), .methodLink RX0 148 Lib.Math.abs.name, .static Lib.Math.abs.name, .code Lib.Math.abs.name Lib.Math.abs.code 1 (some .int)] ++ wsX00)
def wsX0_stray_r1 : List Cond := [Cond.methodLink RX0 160 yX0_signingCount, Cond.instanceMethod yX0_signingCount, Cond.selects RX0 yX0_signingCount yX0_signingCount, Cond.initialized RX0, Cond.code yX0_signingCount cX0_signingCount 1 (some .int), Cond.fieldLink RX0 44 "TwoColours" "stepCount" "I", Cond.methodLink RX0 163 yX0_strayOf, Cond.instanceMethod yX0_strayOf, Cond.selects RX0 yX0_strayOf yX0_strayOf, Cond.code yX0_strayOf cX0_strayOf 7 (some .int), Cond.fieldLink RX0 47 "TwoColours" "stepX" "[I", Cond.fieldLink RX0 50 "TwoColours" "stepY" "[I", Cond.methodLink RX0 109 Lib.Math.max.name, Cond.static Lib.Math.max.name, Cond.initialized "java/lang/Math", Cond.code Lib.Math.max.name Lib.Math.max.code 2 (some .int), Cond.methodLink RX0 83 yX0_bitOf, Cond.static yX0_bitOf, Cond.code yX0_bitOf cX0_bitOf 2 (some .int), Cond.methodLink RX0 172 yX0_greaterSize, Cond.static yX0_greaterSize, Cond.code yX0_greaterSize cX0_greaterSize 2 (some .int), Cond.methodLink RX0 148 Lib.Math.abs.name, Cond.static Lib.Math.abs.name]
def wsX0_stray_r2 : List Cond := [Cond.code Lib.Math.abs.name Lib.Math.abs.code 1 (some .int)]
def wsX0_stray : List Cond := .code yX0_stray cX0_stray 2 (some .int) :: ((wsX0_stray_r1 ++ wsX0_stray_r2) ++ wsX00)
def wsX0_straightest_r1 : List Cond := [Cond.methodLink RX0 163 yX0_strayOf, Cond.instanceMethod yX0_strayOf, Cond.selects RX0 yX0_strayOf yX0_strayOf, Cond.initialized RX0, Cond.code yX0_strayOf cX0_strayOf 7 (some .int), Cond.fieldLink RX0 44 "TwoColours" "stepCount" "I", Cond.fieldLink RX0 47 "TwoColours" "stepX" "[I", Cond.fieldLink RX0 50 "TwoColours" "stepY" "[I", Cond.methodLink RX0 109 Lib.Math.max.name, Cond.static Lib.Math.max.name, Cond.initialized "java/lang/Math", Cond.code Lib.Math.max.name Lib.Math.max.code 2 (some .int), Cond.methodLink RX0 83 yX0_bitOf, Cond.static yX0_bitOf, Cond.code yX0_bitOf cX0_bitOf 2 (some .int), Cond.methodLink RX0 172 yX0_greaterSize, Cond.static yX0_greaterSize, Cond.code yX0_greaterSize cX0_greaterSize 2 (some .int), Cond.methodLink RX0 148 Lib.Math.abs.name, Cond.static Lib.Math.abs.name, Cond.code Lib.Math.abs.name Lib.Math.abs.code 1 (some .int), Cond.methodLink RX0 160 yX0_signingCount, Cond.instanceMethod yX0_signingCount, Cond.selects RX0 yX0_signingCount yX0_signingCount]
def wsX0_straightest_r2 : List Cond := [Cond.code yX0_signingCount cX0_signingCount 1 (some .int)]
def wsX0_straightest : List Cond := .code yX0_straightest cX0_straightest 5 (some .int) :: ((wsX0_straightest_r1 ++ wsX0_straightest_r2) ++ wsX00)
def wsX0_nearest : List Cond := .code yX0_nearest cX0_nearest 6 (some .int) :: ([.fieldLink RX0 44 "TwoColours" "stepCount" "I", .fieldLink RX0 47 "TwoColours" "stepX" "[I", .fieldLink RX0 50 "TwoColours" "stepY" "[I", .methodLink RX0 172 yX0_greaterSize, .static yX0_greaterSize, .initialized RX0, .code yX0_greaterSize cX0_greaterSize 2 (some .int), .methodLink RX0 148 Lib.Math.abs.name, .static Lib.Math.abs.name, .initialized "java/lang/Math", .code Lib.Math.abs.name Lib.Math.abs.code 1 (some .int), .methodLink RX0 109 Lib.Math.max.name, .static Lib.Math.max.name, .code Lib.Math.max.name Lib.Math.max.code 2 (some .int)] ++ wsX00)
def wsX0_straight_r1 : List Cond := [Cond.methodLink RX0 166 yX0_straightest, Cond.instanceMethod yX0_straightest, Cond.selects RX0 yX0_straightest yX0_straightest, Cond.initialized RX0, Cond.code yX0_straightest cX0_straightest 5 (some .int), Cond.methodLink RX0 163 yX0_strayOf, Cond.instanceMethod yX0_strayOf, Cond.selects RX0 yX0_strayOf yX0_strayOf, Cond.code yX0_strayOf cX0_strayOf 7 (some .int), Cond.fieldLink RX0 44 "TwoColours" "stepCount" "I", Cond.fieldLink RX0 47 "TwoColours" "stepX" "[I", Cond.fieldLink RX0 50 "TwoColours" "stepY" "[I", Cond.methodLink RX0 109 Lib.Math.max.name, Cond.static Lib.Math.max.name, Cond.initialized "java/lang/Math", Cond.code Lib.Math.max.name Lib.Math.max.code 2 (some .int), Cond.methodLink RX0 83 yX0_bitOf, Cond.static yX0_bitOf, Cond.code yX0_bitOf cX0_bitOf 2 (some .int), Cond.methodLink RX0 172 yX0_greaterSize, Cond.static yX0_greaterSize, Cond.code yX0_greaterSize cX0_greaterSize 2 (some .int), Cond.methodLink RX0 148 Lib.Math.abs.name, Cond.static Lib.Math.abs.name]
def wsX0_straight_r2 : List Cond := [Cond.code Lib.Math.abs.name Lib.Math.abs.code 1 (some .int), Cond.methodLink RX0 160 yX0_signingCount, Cond.instanceMethod yX0_signingCount, Cond.selects RX0 yX0_signingCount yX0_signingCount, Cond.code yX0_signingCount cX0_signingCount 1 (some .int), Cond.methodLink RX0 169 yX0_nearest, Cond.instanceMethod yX0_nearest, Cond.selects RX0 yX0_nearest yX0_nearest, Cond.code yX0_nearest cX0_nearest 6 (some .int)]
def wsX0_straight : List Cond := .code yX0_straight cX0_straight 2 (some .int) :: ((wsX0_straight_r1 ++ wsX0_straight_r2) ++ wsX00)
def wsX0_count : List Cond := .code yX0_count cX0_count 2 (some .int) :: ([.fieldLink RX0 7 "TwoColours" "thingCount" "I", .fieldLink RX0 29 "TwoColours" "heapCount" "I", .fieldLink RX0 44 "TwoColours" "stepCount" "I", .fieldLink RX0 20 "TwoColours" "heldThings" "I", .methodLink RX0 140 yJ6_bitCount_0f7a4, .static yJ6_bitCount_0f7a4, .initialized RJ6, .code yJ6_bitCount_0f7a4 cJ6_bitCount_0f7a4 1 (some .int), .constant RJ6 265 (1431655765), .constant RJ6 266 (858993459), .constant RJ6 267 (252645135)] ++ wsX00)
def wsX0_trace : List Cond := .code yX0_trace cX0_trace 1 (some .long) :: ([.fieldLink RX0 53 "TwoColours" "asked" "J"] ++ wsX00)
def wsX1_init : List Cond := .code yX1_init cX1_init 1 none :: ([.methodLink RX1 1 objectInit, .instanceMethod objectInit, .code objectInit ⟨#[0xb1]⟩ 1 none, .fieldLink RX1 7 "TwoColoursModel" "n" "I", .arrayClass .int, .fieldLink RX1 13 "TwoColoursModel" "second" "[I", .fieldLink RX1 17 "TwoColoursModel" "held" "[I", .fieldLink RX1 20 "TwoColoursModel" "kind" "[I", .fieldLink RX1 23 "TwoColoursModel" "from" "[I", .fieldLink RX1 26 "TwoColoursModel" "to" "[I", .fieldLink RX1 29 "TwoColoursModel" "stepX" "[I", .fieldLink RX1 32 "TwoColoursModel" "stepY" "[I", .fieldLink RX1 35 "TwoColoursModel" "heapBits" "[I", .fieldLink RX1 38 "TwoColoursModel" "colour" "[I", .fieldLink RX1 41 "TwoColoursModel" "heaps" "I"] ++ wsX10)
def wsX1_in : List Cond := .code yX1_in cX1_in 3 (some .boolean) :: ([])
def wsX1_isThing : List Cond := .code yX1_isThing cX1_isThing 2 (some .boolean) :: ([.fieldLink RX1 7 "TwoColoursModel" "n" "I", .methodLink RX1 44 yX1_in, .static yX1_in, .initialized RX1, .code yX1_in cX1_in 3 (some .boolean)] ++ wsX10)
def wsX1_things : List Cond := .code yX1_things cX1_things 4 (some .int) :: ([.fieldLink RX1 7 "TwoColoursModel" "n" "I", .fieldLink RX1 41 "TwoColoursModel" "heaps" "I", .fieldLink RX1 13 "TwoColoursModel" "second" "[I", .fieldLink RX1 17 "TwoColoursModel" "held" "[I", .methodLink RX1 44 yX1_in, .static yX1_in, .initialized RX1, .code yX1_in cX1_in 3 (some .boolean)] ++ wsX10)
def wsX1_swap : List Cond := .code yX1_swap cX1_swap 4 (some .int) :: ([.fieldLink RX1 13 "TwoColoursModel" "second" "[I", .methodLink RX1 48 yX1_isThing, .instanceMethod yX1_isThing, .selects RX1 yX1_isThing yX1_isThing, .initialized RX1, .code yX1_isThing cX1_isThing 2 (some .boolean), .fieldLink RX1 7 "TwoColoursModel" "n" "I", .methodLink RX1 44 yX1_in, .static yX1_in, .code yX1_in cX1_in 3 (some .boolean)] ++ wsX10)
def wsX1_second : List Cond := .code yX1_second cX1_second 2 (some .int) :: ([.fieldLink RX1 13 "TwoColoursModel" "second" "[I", .methodLink RX1 48 yX1_isThing, .instanceMethod yX1_isThing, .selects RX1 yX1_isThing yX1_isThing, .initialized RX1, .code yX1_isThing cX1_isThing 2 (some .boolean), .fieldLink RX1 7 "TwoColoursModel" "n" "I", .methodLink RX1 44 yX1_in, .static yX1_in, .code yX1_in cX1_in 3 (some .boolean)] ++ wsX10)
def wsX1_isWell : List Cond := .code yX1_isWell cX1_isWell 4 (some .boolean) :: ([.fieldLink RX1 7 "TwoColoursModel" "n" "I", .methodLink RX1 44 yX1_in, .static yX1_in, .initialized RX1, .code yX1_in cX1_in 3 (some .boolean), .methodLink RX1 48 yX1_isThing, .instanceMethod yX1_isThing, .selects RX1 yX1_isThing yX1_isThing, .code yX1_isThing cX1_isThing 2 (some .boolean)] ++ wsX10)
def wsX1_heap : List Cond := .code yX1_heap cX1_heap 4 (some .int) :: ([.fieldLink RX1 41 "TwoColoursModel" "heaps" "I", .fieldLink RX1 20 "TwoColoursModel" "kind" "[I", .fieldLink RX1 23 "TwoColoursModel" "from" "[I", .fieldLink RX1 26 "TwoColoursModel" "to" "[I", .methodLink RX1 52 yX1_isWell, .instanceMethod yX1_isWell, .selects RX1 yX1_isWell yX1_isWell, .initialized RX1, .code yX1_isWell cX1_isWell 4 (some .boolean), .fieldLink RX1 7 "TwoColoursModel" "n" "I", .methodLink RX1 44 yX1_in, .static yX1_in, .code yX1_in cX1_in 3 (some .boolean), .methodLink RX1 48 yX1_isThing, .instanceMethod yX1_isThing, .selects RX1 yX1_isThing yX1_isThing, .code yX1_isThing cX1_isThing 2 (some .boolean)] ++ wsX10)
def wsX1_drop : List Cond := .code yX1_drop cX1_drop 1 (some .int) :: ([.fieldLink RX1 41 "TwoColoursModel" "heaps" "I"] ++ wsX10)
def wsX1_placeOf : List Cond := .code yX1_placeOf cX1_placeOf 3 (some .int) :: ([.fieldLink RX1 13 "TwoColoursModel" "second" "[I"] ++ wsX10)
def wsX1_holds : List Cond := .code yX1_holds cX1_holds 3 (some .boolean) :: ([.fieldLink RX1 20 "TwoColoursModel" "kind" "[I", .fieldLink RX1 23 "TwoColoursModel" "from" "[I", .fieldLink RX1 26 "TwoColoursModel" "to" "[I", .methodLink RX1 44 yX1_in, .static yX1_in, .initialized RX1, .code yX1_in cX1_in 3 (some .boolean), .methodLink RX1 55 yX1_placeOf, .instanceMethod yX1_placeOf, .selects RX1 yX1_placeOf yX1_placeOf, .code yX1_placeOf cX1_placeOf 3 (some .int), .fieldLink RX1 13 "TwoColoursModel" "second" "[I"] ++ wsX10)
def wsX1_isHeap : List Cond := .code yX1_isHeap cX1_isHeap 2 (some .boolean) :: ([.fieldLink RX1 41 "TwoColoursModel" "heaps" "I", .methodLink RX1 44 yX1_in, .static yX1_in, .initialized RX1, .code yX1_in cX1_in 3 (some .boolean)] ++ wsX10)
def wsX1_has_r1 : List Cond := [Cond.fieldLink RX1 62 "TwoColoursModel" "trace" "J", Cond.fieldLink RX1 20 "TwoColoursModel" "kind" "[I", Cond.constantLong RX1 66 (10), Cond.constantLong RX1 68 (110), Cond.constantLong RX1 70 (1000), Cond.methodLink RX1 59 yX1_isHeap, Cond.instanceMethod yX1_isHeap, Cond.selects RX1 yX1_isHeap yX1_isHeap, Cond.initialized RX1, Cond.code yX1_isHeap cX1_isHeap 2 (some .boolean), Cond.fieldLink RX1 41 "TwoColoursModel" "heaps" "I", Cond.methodLink RX1 44 yX1_in, Cond.static yX1_in, Cond.code yX1_in cX1_in 3 (some .boolean), Cond.methodLink RX1 48 yX1_isThing, Cond.instanceMethod yX1_isThing, Cond.selects RX1 yX1_isThing yX1_isThing, Cond.code yX1_isThing cX1_isThing 2 (some .boolean), Cond.fieldLink RX1 7 "TwoColoursModel" "n" "I", Cond.methodLink RX1 72 yX1_holds, Cond.instanceMethod yX1_holds, Cond.selects RX1 yX1_holds yX1_holds, Cond.code yX1_holds cX1_holds 3 (some .boolean), Cond.fieldLink RX1 23 "TwoColoursModel" "from" "[I"]
def wsX1_has_r2 : List Cond := [Cond.fieldLink RX1 26 "TwoColoursModel" "to" "[I", Cond.methodLink RX1 55 yX1_placeOf, Cond.instanceMethod yX1_placeOf, Cond.selects RX1 yX1_placeOf yX1_placeOf, Cond.code yX1_placeOf cX1_placeOf 3 (some .int), Cond.fieldLink RX1 13 "TwoColoursModel" "second" "[I"]
def wsX1_has : List Cond := .code yX1_has cX1_has 3 (some .int) :: ((wsX1_has_r1 ++ wsX1_has_r2) ++ wsX10)
def wsX1_bitsOf : List Cond := .code yX1_bitsOf cX1_bitsOf 4 (some .int) :: ([.fieldLink RX1 7 "TwoColoursModel" "n" "I", .methodLink RX1 72 yX1_holds, .instanceMethod yX1_holds, .selects RX1 yX1_holds yX1_holds, .initialized RX1, .code yX1_holds cX1_holds 3 (some .boolean), .fieldLink RX1 20 "TwoColoursModel" "kind" "[I", .fieldLink RX1 23 "TwoColoursModel" "from" "[I", .fieldLink RX1 26 "TwoColoursModel" "to" "[I", .methodLink RX1 44 yX1_in, .static yX1_in, .code yX1_in cX1_in 3 (some .boolean), .methodLink RX1 55 yX1_placeOf, .instanceMethod yX1_placeOf, .selects RX1 yX1_placeOf yX1_placeOf, .code yX1_placeOf cX1_placeOf 3 (some .int), .fieldLink RX1 13 "TwoColoursModel" "second" "[I"] ++ wsX10)
def wsX1_bits_r1 : List Cond := [Cond.methodLink RX1 59 yX1_isHeap, Cond.instanceMethod yX1_isHeap, Cond.selects RX1 yX1_isHeap yX1_isHeap, Cond.initialized RX1, Cond.code yX1_isHeap cX1_isHeap 2 (some .boolean), Cond.fieldLink RX1 41 "TwoColoursModel" "heaps" "I", Cond.methodLink RX1 44 yX1_in, Cond.static yX1_in, Cond.code yX1_in cX1_in 3 (some .boolean), Cond.methodLink RX1 76 yX1_bitsOf, Cond.instanceMethod yX1_bitsOf, Cond.selects RX1 yX1_bitsOf yX1_bitsOf, Cond.code yX1_bitsOf cX1_bitsOf 4 (some .int), Cond.fieldLink RX1 7 "TwoColoursModel" "n" "I", Cond.methodLink RX1 72 yX1_holds, Cond.instanceMethod yX1_holds, Cond.selects RX1 yX1_holds yX1_holds, Cond.code yX1_holds cX1_holds 3 (some .boolean), Cond.fieldLink RX1 20 "TwoColoursModel" "kind" "[I", Cond.fieldLink RX1 23 "TwoColoursModel" "from" "[I", Cond.fieldLink RX1 26 "TwoColoursModel" "to" "[I", Cond.methodLink RX1 55 yX1_placeOf, Cond.instanceMethod yX1_placeOf, Cond.selects RX1 yX1_placeOf yX1_placeOf]
def wsX1_bits_r2 : List Cond := [Cond.code yX1_placeOf cX1_placeOf 3 (some .int), Cond.fieldLink RX1 13 "TwoColoursModel" "second" "[I"]
def wsX1_bits : List Cond := .code yX1_bits cX1_bits 2 (some .int) :: ((wsX1_bits_r1 ++ wsX1_bits_r2) ++ wsX10)
def wsX1_hold : List Cond := .code yX1_hold cX1_hold 4 (some .int) :: ([.fieldLink RX1 17 "TwoColoursModel" "held" "[I", .methodLink RX1 48 yX1_isThing, .instanceMethod yX1_isThing, .selects RX1 yX1_isThing yX1_isThing, .initialized RX1, .code yX1_isThing cX1_isThing 2 (some .boolean), .fieldLink RX1 7 "TwoColoursModel" "n" "I", .methodLink RX1 44 yX1_in, .static yX1_in, .code yX1_in cX1_in 3 (some .boolean)] ++ wsX10)
def wsX1_ones : List Cond := .code yX1_ones cX1_ones 3 (some .int) :: ([])
def wsX1_size : List Cond := .code yX1_size cX1_size 1 (some .int) :: ([])
def wsX1_offOf : List Cond := .code yX1_offOf cX1_offOf 2 (some .int) :: ([.methodLink RX1 79 yX1_ones, .static yX1_ones, .initialized RX1, .code yX1_ones cX1_ones 3 (some .int), .methodLink RX1 82 yX1_size, .static yX1_size, .code yX1_size cX1_size 1 (some .int)])
def wsX1_isColouring : List Cond := .code yX1_isColouring cX1_isColouring 2 (some .boolean) :: ([.fieldLink RX1 7 "TwoColoursModel" "n" "I", .methodLink RX1 44 yX1_in, .static yX1_in, .initialized RX1, .code yX1_in cX1_in 3 (some .boolean)] ++ wsX10)
def wsX1_off_r1 : List Cond := [Cond.methodLink RX1 85 yX1_isColouring, Cond.instanceMethod yX1_isColouring, Cond.selects RX1 yX1_isColouring yX1_isColouring, Cond.initialized RX1, Cond.code yX1_isColouring cX1_isColouring 2 (some .boolean), Cond.fieldLink RX1 7 "TwoColoursModel" "n" "I", Cond.methodLink RX1 44 yX1_in, Cond.static yX1_in, Cond.code yX1_in cX1_in 3 (some .boolean), Cond.methodLink RX1 59 yX1_isHeap, Cond.instanceMethod yX1_isHeap, Cond.selects RX1 yX1_isHeap yX1_isHeap, Cond.code yX1_isHeap cX1_isHeap 2 (some .boolean), Cond.fieldLink RX1 41 "TwoColoursModel" "heaps" "I", Cond.methodLink RX1 76 yX1_bitsOf, Cond.instanceMethod yX1_bitsOf, Cond.selects RX1 yX1_bitsOf yX1_bitsOf, Cond.code yX1_bitsOf cX1_bitsOf 4 (some .int), Cond.methodLink RX1 72 yX1_holds, Cond.instanceMethod yX1_holds, Cond.selects RX1 yX1_holds yX1_holds, Cond.code yX1_holds cX1_holds 3 (some .boolean), Cond.fieldLink RX1 20 "TwoColoursModel" "kind" "[I", Cond.fieldLink RX1 23 "TwoColoursModel" "from" "[I"]
def wsX1_off_r2 : List Cond := [Cond.fieldLink RX1 26 "TwoColoursModel" "to" "[I", Cond.methodLink RX1 55 yX1_placeOf, Cond.instanceMethod yX1_placeOf, Cond.selects RX1 yX1_placeOf yX1_placeOf, Cond.code yX1_placeOf cX1_placeOf 3 (some .int), Cond.fieldLink RX1 13 "TwoColoursModel" "second" "[I", Cond.methodLink RX1 88 yX1_offOf, Cond.static yX1_offOf, Cond.code yX1_offOf cX1_offOf 2 (some .int), Cond.methodLink RX1 79 yX1_ones, Cond.static yX1_ones, Cond.code yX1_ones cX1_ones 3 (some .int), Cond.methodLink RX1 82 yX1_size, Cond.static yX1_size, Cond.code yX1_size cX1_size 1 (some .int)]
def wsX1_off : List Cond := .code yX1_off cX1_off 3 (some .int) :: ((wsX1_off_r1 ++ wsX1_off_r2) ++ wsX10)
def wsX1_collect : List Cond := .code yX1_collect cX1_collect 2 none :: ([.fieldLink RX1 41 "TwoColoursModel" "heaps" "I", .fieldLink RX1 35 "TwoColoursModel" "heapBits" "[I", .methodLink RX1 76 yX1_bitsOf, .instanceMethod yX1_bitsOf, .selects RX1 yX1_bitsOf yX1_bitsOf, .initialized RX1, .code yX1_bitsOf cX1_bitsOf 4 (some .int), .fieldLink RX1 7 "TwoColoursModel" "n" "I", .methodLink RX1 72 yX1_holds, .instanceMethod yX1_holds, .selects RX1 yX1_holds yX1_holds, .code yX1_holds cX1_holds 3 (some .boolean), .fieldLink RX1 20 "TwoColoursModel" "kind" "[I", .fieldLink RX1 23 "TwoColoursModel" "from" "[I", .fieldLink RX1 26 "TwoColoursModel" "to" "[I", .methodLink RX1 44 yX1_in, .static yX1_in, .code yX1_in cX1_in 3 (some .boolean), .methodLink RX1 55 yX1_placeOf, .instanceMethod yX1_placeOf, .selects RX1 yX1_placeOf yX1_placeOf, .code yX1_placeOf cX1_placeOf 3 (some .int), .fieldLink RX1 13 "TwoColoursModel" "second" "[I"] ++ wsX10)
def wsX1_worstOf : List Cond := .code yX1_worstOf cX1_worstOf 5 (some .int) :: ([.fieldLink RX1 41 "TwoColoursModel" "heaps" "I", .fieldLink RX1 35 "TwoColoursModel" "heapBits" "[I", .methodLink RX1 88 yX1_offOf, .static yX1_offOf, .initialized RX1, .code yX1_offOf cX1_offOf 2 (some .int), .methodLink RX1 79 yX1_ones, .static yX1_ones, .code yX1_ones cX1_ones 3 (some .int), .methodLink RX1 82 yX1_size, .static yX1_size, .code yX1_size cX1_size 1 (some .int)] ++ wsX10)
def wsX1_squaresOf : List Cond := .code yX1_squaresOf cX1_squaresOf 5 (some .int) :: ([.fieldLink RX1 41 "TwoColoursModel" "heaps" "I", .fieldLink RX1 35 "TwoColoursModel" "heapBits" "[I", .methodLink RX1 88 yX1_offOf, .static yX1_offOf, .initialized RX1, .code yX1_offOf cX1_offOf 2 (some .int), .methodLink RX1 79 yX1_ones, .static yX1_ones, .code yX1_ones cX1_ones 3 (some .int), .methodLink RX1 82 yX1_size, .static yX1_size, .code yX1_size cX1_size 1 (some .int)] ++ wsX10)
def wsX1_worst_r1 : List Cond := [Cond.methodLink RX1 92 yX1_collect, Cond.instanceMethod yX1_collect, Cond.selects RX1 yX1_collect yX1_collect, Cond.initialized RX1, Cond.code yX1_collect cX1_collect 2 none, Cond.fieldLink RX1 41 "TwoColoursModel" "heaps" "I", Cond.fieldLink RX1 35 "TwoColoursModel" "heapBits" "[I", Cond.methodLink RX1 76 yX1_bitsOf, Cond.instanceMethod yX1_bitsOf, Cond.selects RX1 yX1_bitsOf yX1_bitsOf, Cond.code yX1_bitsOf cX1_bitsOf 4 (some .int), Cond.fieldLink RX1 7 "TwoColoursModel" "n" "I", Cond.methodLink RX1 72 yX1_holds, Cond.instanceMethod yX1_holds, Cond.selects RX1 yX1_holds yX1_holds, Cond.code yX1_holds cX1_holds 3 (some .boolean), Cond.fieldLink RX1 20 "TwoColoursModel" "kind" "[I", Cond.fieldLink RX1 23 "TwoColoursModel" "from" "[I", Cond.fieldLink RX1 26 "TwoColoursModel" "to" "[I", Cond.methodLink RX1 44 yX1_in, Cond.static yX1_in, Cond.code yX1_in cX1_in 3 (some .boolean), Cond.methodLink RX1 55 yX1_placeOf, Cond.instanceMethod yX1_placeOf]
def wsX1_worst_r2 : List Cond := [Cond.selects RX1 yX1_placeOf yX1_placeOf, Cond.code yX1_placeOf cX1_placeOf 3 (some .int), Cond.fieldLink RX1 13 "TwoColoursModel" "second" "[I", Cond.methodLink RX1 85 yX1_isColouring, Cond.instanceMethod yX1_isColouring, Cond.selects RX1 yX1_isColouring yX1_isColouring, Cond.code yX1_isColouring cX1_isColouring 2 (some .boolean), Cond.methodLink RX1 95 yX1_worstOf, Cond.instanceMethod yX1_worstOf, Cond.selects RX1 yX1_worstOf yX1_worstOf, Cond.code yX1_worstOf cX1_worstOf 5 (some .int), Cond.methodLink RX1 88 yX1_offOf, Cond.static yX1_offOf, Cond.code yX1_offOf cX1_offOf 2 (some .int), Cond.methodLink RX1 79 yX1_ones, Cond.static yX1_ones, Cond.code yX1_ones cX1_ones 3 (some .int), Cond.methodLink RX1 82 yX1_size, Cond.static yX1_size, Cond.code yX1_size cX1_size 1 (some .int)]
def wsX1_worst : List Cond := .code yX1_worst cX1_worst 2 (some .int) :: ((wsX1_worst_r1 ++ wsX1_worst_r2) ++ wsX10)
def wsX1_squares_r1 : List Cond := [Cond.methodLink RX1 92 yX1_collect, Cond.instanceMethod yX1_collect, Cond.selects RX1 yX1_collect yX1_collect, Cond.initialized RX1, Cond.code yX1_collect cX1_collect 2 none, Cond.fieldLink RX1 41 "TwoColoursModel" "heaps" "I", Cond.fieldLink RX1 35 "TwoColoursModel" "heapBits" "[I", Cond.methodLink RX1 76 yX1_bitsOf, Cond.instanceMethod yX1_bitsOf, Cond.selects RX1 yX1_bitsOf yX1_bitsOf, Cond.code yX1_bitsOf cX1_bitsOf 4 (some .int), Cond.fieldLink RX1 7 "TwoColoursModel" "n" "I", Cond.methodLink RX1 72 yX1_holds, Cond.instanceMethod yX1_holds, Cond.selects RX1 yX1_holds yX1_holds, Cond.code yX1_holds cX1_holds 3 (some .boolean), Cond.fieldLink RX1 20 "TwoColoursModel" "kind" "[I", Cond.fieldLink RX1 23 "TwoColoursModel" "from" "[I", Cond.fieldLink RX1 26 "TwoColoursModel" "to" "[I", Cond.methodLink RX1 44 yX1_in, Cond.static yX1_in, Cond.code yX1_in cX1_in 3 (some .boolean), Cond.methodLink RX1 55 yX1_placeOf, Cond.instanceMethod yX1_placeOf]
def wsX1_squares_r2 : List Cond := [Cond.selects RX1 yX1_placeOf yX1_placeOf, Cond.code yX1_placeOf cX1_placeOf 3 (some .int), Cond.fieldLink RX1 13 "TwoColoursModel" "second" "[I", Cond.methodLink RX1 85 yX1_isColouring, Cond.instanceMethod yX1_isColouring, Cond.selects RX1 yX1_isColouring yX1_isColouring, Cond.code yX1_isColouring cX1_isColouring 2 (some .boolean), Cond.methodLink RX1 98 yX1_squaresOf, Cond.instanceMethod yX1_squaresOf, Cond.selects RX1 yX1_squaresOf yX1_squaresOf, Cond.code yX1_squaresOf cX1_squaresOf 5 (some .int), Cond.methodLink RX1 88 yX1_offOf, Cond.static yX1_offOf, Cond.code yX1_offOf cX1_offOf 2 (some .int), Cond.methodLink RX1 79 yX1_ones, Cond.static yX1_ones, Cond.code yX1_ones cX1_ones 3 (some .int), Cond.methodLink RX1 82 yX1_size, Cond.static yX1_size, Cond.code yX1_size cX1_size 1 (some .int)]
def wsX1_squares : List Cond := .code yX1_squares cX1_squares 2 (some .int) :: ((wsX1_squares_r1 ++ wsX1_squares_r2) ++ wsX10)
def wsX1_times : List Cond := .code yX1_times cX1_times 5 (some .int) :: ([.fieldLink RX1 7 "TwoColoursModel" "n" "I", .fieldLink RX1 41 "TwoColoursModel" "heaps" "I", .methodLink RX1 72 yX1_holds, .instanceMethod yX1_holds, .selects RX1 yX1_holds yX1_holds, .initialized RX1, .code yX1_holds cX1_holds 3 (some .boolean), .fieldLink RX1 20 "TwoColoursModel" "kind" "[I", .fieldLink RX1 23 "TwoColoursModel" "from" "[I", .fieldLink RX1 26 "TwoColoursModel" "to" "[I", .methodLink RX1 44 yX1_in, .static yX1_in, .code yX1_in cX1_in 3 (some .boolean), .methodLink RX1 55 yX1_placeOf, .instanceMethod yX1_placeOf, .selects RX1 yX1_placeOf yX1_placeOf, .code yX1_placeOf cX1_placeOf 3 (some .int), .fieldLink RX1 13 "TwoColoursModel" "second" "[I"] ++ wsX10)
def wsX1_keeps : List Cond := .code yX1_keeps cX1_keeps 4 (some .boolean) :: ([.fieldLink RX1 7 "TwoColoursModel" "n" "I", .fieldLink RX1 17 "TwoColoursModel" "held" "[I"] ++ wsX10)
def wsX1_goThrough_r1 : List Cond := [Cond.constant RX1 101 (1000000), Cond.fieldLink RX1 102 "TwoColoursModel" "foundFewest" "I", Cond.fieldLink RX1 7 "TwoColoursModel" "n" "I", Cond.fieldLink RX1 108 "TwoColoursModel" "foundFirst" "I", Cond.fieldLink RX1 111 "TwoColoursModel" "foundMany" "I", Cond.methodLink RX1 92 yX1_collect, Cond.instanceMethod yX1_collect, Cond.selects RX1 yX1_collect yX1_collect, Cond.initialized RX1, Cond.code yX1_collect cX1_collect 2 none, Cond.fieldLink RX1 41 "TwoColoursModel" "heaps" "I", Cond.fieldLink RX1 35 "TwoColoursModel" "heapBits" "[I", Cond.methodLink RX1 76 yX1_bitsOf, Cond.instanceMethod yX1_bitsOf, Cond.selects RX1 yX1_bitsOf yX1_bitsOf, Cond.code yX1_bitsOf cX1_bitsOf 4 (some .int), Cond.methodLink RX1 72 yX1_holds, Cond.instanceMethod yX1_holds, Cond.selects RX1 yX1_holds yX1_holds, Cond.code yX1_holds cX1_holds 3 (some .boolean), Cond.fieldLink RX1 20 "TwoColoursModel" "kind" "[I", Cond.fieldLink RX1 23 "TwoColoursModel" "from" "[I", Cond.fieldLink RX1 26 "TwoColoursModel" "to" "[I", Cond.methodLink RX1 44 yX1_in]
def wsX1_goThrough_r2 : List Cond := [Cond.static yX1_in, Cond.code yX1_in cX1_in 3 (some .boolean), Cond.methodLink RX1 55 yX1_placeOf, Cond.instanceMethod yX1_placeOf, Cond.selects RX1 yX1_placeOf yX1_placeOf, Cond.code yX1_placeOf cX1_placeOf 3 (some .int), Cond.fieldLink RX1 13 "TwoColoursModel" "second" "[I", Cond.methodLink RX1 105 yX1_keeps, Cond.instanceMethod yX1_keeps, Cond.selects RX1 yX1_keeps yX1_keeps, Cond.code yX1_keeps cX1_keeps 4 (some .boolean), Cond.fieldLink RX1 17 "TwoColoursModel" "held" "[I", Cond.methodLink RX1 95 yX1_worstOf, Cond.instanceMethod yX1_worstOf, Cond.selects RX1 yX1_worstOf yX1_worstOf, Cond.code yX1_worstOf cX1_worstOf 5 (some .int), Cond.methodLink RX1 88 yX1_offOf, Cond.static yX1_offOf, Cond.code yX1_offOf cX1_offOf 2 (some .int), Cond.methodLink RX1 79 yX1_ones, Cond.static yX1_ones, Cond.code yX1_ones cX1_ones 3 (some .int), Cond.methodLink RX1 82 yX1_size, Cond.static yX1_size]
def wsX1_goThrough_r3 : List Cond := [Cond.code yX1_size cX1_size 1 (some .int), Cond.methodLink RX1 98 yX1_squaresOf, Cond.instanceMethod yX1_squaresOf, Cond.selects RX1 yX1_squaresOf yX1_squaresOf, Cond.code yX1_squaresOf cX1_squaresOf 5 (some .int)]
def wsX1_goThrough : List Cond := .code yX1_goThrough cX1_goThrough 5 (some .int) :: ((wsX1_goThrough_r1 ++ (wsX1_goThrough_r2 ++ wsX1_goThrough_r3)) ++ wsX10)
def wsX1_least_r1 : List Cond := [Cond.methodLink RX1 114 yX1_goThrough, Cond.instanceMethod yX1_goThrough, Cond.selects RX1 yX1_goThrough yX1_goThrough, Cond.initialized RX1, Cond.code yX1_goThrough cX1_goThrough 5 (some .int), Cond.constant RX1 101 (1000000), Cond.fieldLink RX1 102 "TwoColoursModel" "foundFewest" "I", Cond.fieldLink RX1 7 "TwoColoursModel" "n" "I", Cond.fieldLink RX1 108 "TwoColoursModel" "foundFirst" "I", Cond.fieldLink RX1 111 "TwoColoursModel" "foundMany" "I", Cond.methodLink RX1 92 yX1_collect, Cond.instanceMethod yX1_collect, Cond.selects RX1 yX1_collect yX1_collect, Cond.code yX1_collect cX1_collect 2 none, Cond.fieldLink RX1 41 "TwoColoursModel" "heaps" "I", Cond.fieldLink RX1 35 "TwoColoursModel" "heapBits" "[I", Cond.methodLink RX1 76 yX1_bitsOf, Cond.instanceMethod yX1_bitsOf, Cond.selects RX1 yX1_bitsOf yX1_bitsOf, Cond.code yX1_bitsOf cX1_bitsOf 4 (some .int), Cond.methodLink RX1 72 yX1_holds, Cond.instanceMethod yX1_holds, Cond.selects RX1 yX1_holds yX1_holds, Cond.code yX1_holds cX1_holds 3 (some .boolean)]
def wsX1_least_r2 : List Cond := [Cond.fieldLink RX1 20 "TwoColoursModel" "kind" "[I", Cond.fieldLink RX1 23 "TwoColoursModel" "from" "[I", Cond.fieldLink RX1 26 "TwoColoursModel" "to" "[I", Cond.methodLink RX1 44 yX1_in, Cond.static yX1_in, Cond.code yX1_in cX1_in 3 (some .boolean), Cond.methodLink RX1 55 yX1_placeOf, Cond.instanceMethod yX1_placeOf, Cond.selects RX1 yX1_placeOf yX1_placeOf, Cond.code yX1_placeOf cX1_placeOf 3 (some .int), Cond.fieldLink RX1 13 "TwoColoursModel" "second" "[I", Cond.methodLink RX1 105 yX1_keeps, Cond.instanceMethod yX1_keeps, Cond.selects RX1 yX1_keeps yX1_keeps, Cond.code yX1_keeps cX1_keeps 4 (some .boolean), Cond.fieldLink RX1 17 "TwoColoursModel" "held" "[I", Cond.methodLink RX1 95 yX1_worstOf, Cond.instanceMethod yX1_worstOf, Cond.selects RX1 yX1_worstOf yX1_worstOf, Cond.code yX1_worstOf cX1_worstOf 5 (some .int), Cond.methodLink RX1 88 yX1_offOf, Cond.static yX1_offOf, Cond.code yX1_offOf cX1_offOf 2 (some .int), Cond.methodLink RX1 79 yX1_ones]
def wsX1_least_r3 : List Cond := [Cond.static yX1_ones, Cond.code yX1_ones cX1_ones 3 (some .int), Cond.methodLink RX1 82 yX1_size, Cond.static yX1_size, Cond.code yX1_size cX1_size 1 (some .int), Cond.methodLink RX1 98 yX1_squaresOf, Cond.instanceMethod yX1_squaresOf, Cond.selects RX1 yX1_squaresOf yX1_squaresOf, Cond.code yX1_squaresOf cX1_squaresOf 5 (some .int)]
def wsX1_least : List Cond := .code yX1_least cX1_least 1 (some .int) :: ((wsX1_least_r1 ++ (wsX1_least_r2 ++ wsX1_least_r3)) ++ wsX10)
def wsX1_first_r1 : List Cond := [Cond.fieldLink RX1 108 "TwoColoursModel" "foundFirst" "I", Cond.methodLink RX1 114 yX1_goThrough, Cond.instanceMethod yX1_goThrough, Cond.selects RX1 yX1_goThrough yX1_goThrough, Cond.initialized RX1, Cond.code yX1_goThrough cX1_goThrough 5 (some .int), Cond.constant RX1 101 (1000000), Cond.fieldLink RX1 102 "TwoColoursModel" "foundFewest" "I", Cond.fieldLink RX1 7 "TwoColoursModel" "n" "I", Cond.fieldLink RX1 111 "TwoColoursModel" "foundMany" "I", Cond.methodLink RX1 92 yX1_collect, Cond.instanceMethod yX1_collect, Cond.selects RX1 yX1_collect yX1_collect, Cond.code yX1_collect cX1_collect 2 none, Cond.fieldLink RX1 41 "TwoColoursModel" "heaps" "I", Cond.fieldLink RX1 35 "TwoColoursModel" "heapBits" "[I", Cond.methodLink RX1 76 yX1_bitsOf, Cond.instanceMethod yX1_bitsOf, Cond.selects RX1 yX1_bitsOf yX1_bitsOf, Cond.code yX1_bitsOf cX1_bitsOf 4 (some .int), Cond.methodLink RX1 72 yX1_holds, Cond.instanceMethod yX1_holds, Cond.selects RX1 yX1_holds yX1_holds, Cond.code yX1_holds cX1_holds 3 (some .boolean)]
def wsX1_first_r2 : List Cond := [Cond.fieldLink RX1 20 "TwoColoursModel" "kind" "[I", Cond.fieldLink RX1 23 "TwoColoursModel" "from" "[I", Cond.fieldLink RX1 26 "TwoColoursModel" "to" "[I", Cond.methodLink RX1 44 yX1_in, Cond.static yX1_in, Cond.code yX1_in cX1_in 3 (some .boolean), Cond.methodLink RX1 55 yX1_placeOf, Cond.instanceMethod yX1_placeOf, Cond.selects RX1 yX1_placeOf yX1_placeOf, Cond.code yX1_placeOf cX1_placeOf 3 (some .int), Cond.fieldLink RX1 13 "TwoColoursModel" "second" "[I", Cond.methodLink RX1 105 yX1_keeps, Cond.instanceMethod yX1_keeps, Cond.selects RX1 yX1_keeps yX1_keeps, Cond.code yX1_keeps cX1_keeps 4 (some .boolean), Cond.fieldLink RX1 17 "TwoColoursModel" "held" "[I", Cond.methodLink RX1 95 yX1_worstOf, Cond.instanceMethod yX1_worstOf, Cond.selects RX1 yX1_worstOf yX1_worstOf, Cond.code yX1_worstOf cX1_worstOf 5 (some .int), Cond.methodLink RX1 88 yX1_offOf, Cond.static yX1_offOf, Cond.code yX1_offOf cX1_offOf 2 (some .int), Cond.methodLink RX1 79 yX1_ones]
def wsX1_first_r3 : List Cond := [Cond.static yX1_ones, Cond.code yX1_ones cX1_ones 3 (some .int), Cond.methodLink RX1 82 yX1_size, Cond.static yX1_size, Cond.code yX1_size cX1_size 1 (some .int), Cond.methodLink RX1 98 yX1_squaresOf, Cond.instanceMethod yX1_squaresOf, Cond.selects RX1 yX1_squaresOf yX1_squaresOf, Cond.code yX1_squaresOf cX1_squaresOf 5 (some .int)]
def wsX1_first : List Cond := .code yX1_first cX1_first 2 (some .int) :: ((wsX1_first_r1 ++ (wsX1_first_r2 ++ wsX1_first_r3)) ++ wsX10)
def wsX1_many_r1 : List Cond := [Cond.fieldLink RX1 111 "TwoColoursModel" "foundMany" "I", Cond.methodLink RX1 114 yX1_goThrough, Cond.instanceMethod yX1_goThrough, Cond.selects RX1 yX1_goThrough yX1_goThrough, Cond.initialized RX1, Cond.code yX1_goThrough cX1_goThrough 5 (some .int), Cond.constant RX1 101 (1000000), Cond.fieldLink RX1 102 "TwoColoursModel" "foundFewest" "I", Cond.fieldLink RX1 7 "TwoColoursModel" "n" "I", Cond.fieldLink RX1 108 "TwoColoursModel" "foundFirst" "I", Cond.methodLink RX1 92 yX1_collect, Cond.instanceMethod yX1_collect, Cond.selects RX1 yX1_collect yX1_collect, Cond.code yX1_collect cX1_collect 2 none, Cond.fieldLink RX1 41 "TwoColoursModel" "heaps" "I", Cond.fieldLink RX1 35 "TwoColoursModel" "heapBits" "[I", Cond.methodLink RX1 76 yX1_bitsOf, Cond.instanceMethod yX1_bitsOf, Cond.selects RX1 yX1_bitsOf yX1_bitsOf, Cond.code yX1_bitsOf cX1_bitsOf 4 (some .int), Cond.methodLink RX1 72 yX1_holds, Cond.instanceMethod yX1_holds, Cond.selects RX1 yX1_holds yX1_holds, Cond.code yX1_holds cX1_holds 3 (some .boolean)]
def wsX1_many_r2 : List Cond := [Cond.fieldLink RX1 20 "TwoColoursModel" "kind" "[I", Cond.fieldLink RX1 23 "TwoColoursModel" "from" "[I", Cond.fieldLink RX1 26 "TwoColoursModel" "to" "[I", Cond.methodLink RX1 44 yX1_in, Cond.static yX1_in, Cond.code yX1_in cX1_in 3 (some .boolean), Cond.methodLink RX1 55 yX1_placeOf, Cond.instanceMethod yX1_placeOf, Cond.selects RX1 yX1_placeOf yX1_placeOf, Cond.code yX1_placeOf cX1_placeOf 3 (some .int), Cond.fieldLink RX1 13 "TwoColoursModel" "second" "[I", Cond.methodLink RX1 105 yX1_keeps, Cond.instanceMethod yX1_keeps, Cond.selects RX1 yX1_keeps yX1_keeps, Cond.code yX1_keeps cX1_keeps 4 (some .boolean), Cond.fieldLink RX1 17 "TwoColoursModel" "held" "[I", Cond.methodLink RX1 95 yX1_worstOf, Cond.instanceMethod yX1_worstOf, Cond.selects RX1 yX1_worstOf yX1_worstOf, Cond.code yX1_worstOf cX1_worstOf 5 (some .int), Cond.methodLink RX1 88 yX1_offOf, Cond.static yX1_offOf, Cond.code yX1_offOf cX1_offOf 2 (some .int), Cond.methodLink RX1 79 yX1_ones]
def wsX1_many_r3 : List Cond := [Cond.static yX1_ones, Cond.code yX1_ones cX1_ones 3 (some .int), Cond.methodLink RX1 82 yX1_size, Cond.static yX1_size, Cond.code yX1_size cX1_size 1 (some .int), Cond.methodLink RX1 98 yX1_squaresOf, Cond.instanceMethod yX1_squaresOf, Cond.selects RX1 yX1_squaresOf yX1_squaresOf, Cond.code yX1_squaresOf cX1_squaresOf 5 (some .int)]
def wsX1_many : List Cond := .code yX1_many cX1_many 2 (some .int) :: ((wsX1_many_r1 ++ (wsX1_many_r2 ++ wsX1_many_r3)) ++ wsX10)
def wsX1_fewest_r1 : List Cond := [Cond.fieldLink RX1 102 "TwoColoursModel" "foundFewest" "I", Cond.methodLink RX1 114 yX1_goThrough, Cond.instanceMethod yX1_goThrough, Cond.selects RX1 yX1_goThrough yX1_goThrough, Cond.initialized RX1, Cond.code yX1_goThrough cX1_goThrough 5 (some .int), Cond.constant RX1 101 (1000000), Cond.fieldLink RX1 7 "TwoColoursModel" "n" "I", Cond.fieldLink RX1 108 "TwoColoursModel" "foundFirst" "I", Cond.fieldLink RX1 111 "TwoColoursModel" "foundMany" "I", Cond.methodLink RX1 92 yX1_collect, Cond.instanceMethod yX1_collect, Cond.selects RX1 yX1_collect yX1_collect, Cond.code yX1_collect cX1_collect 2 none, Cond.fieldLink RX1 41 "TwoColoursModel" "heaps" "I", Cond.fieldLink RX1 35 "TwoColoursModel" "heapBits" "[I", Cond.methodLink RX1 76 yX1_bitsOf, Cond.instanceMethod yX1_bitsOf, Cond.selects RX1 yX1_bitsOf yX1_bitsOf, Cond.code yX1_bitsOf cX1_bitsOf 4 (some .int), Cond.methodLink RX1 72 yX1_holds, Cond.instanceMethod yX1_holds, Cond.selects RX1 yX1_holds yX1_holds, Cond.code yX1_holds cX1_holds 3 (some .boolean)]
def wsX1_fewest_r2 : List Cond := [Cond.fieldLink RX1 20 "TwoColoursModel" "kind" "[I", Cond.fieldLink RX1 23 "TwoColoursModel" "from" "[I", Cond.fieldLink RX1 26 "TwoColoursModel" "to" "[I", Cond.methodLink RX1 44 yX1_in, Cond.static yX1_in, Cond.code yX1_in cX1_in 3 (some .boolean), Cond.methodLink RX1 55 yX1_placeOf, Cond.instanceMethod yX1_placeOf, Cond.selects RX1 yX1_placeOf yX1_placeOf, Cond.code yX1_placeOf cX1_placeOf 3 (some .int), Cond.fieldLink RX1 13 "TwoColoursModel" "second" "[I", Cond.methodLink RX1 105 yX1_keeps, Cond.instanceMethod yX1_keeps, Cond.selects RX1 yX1_keeps yX1_keeps, Cond.code yX1_keeps cX1_keeps 4 (some .boolean), Cond.fieldLink RX1 17 "TwoColoursModel" "held" "[I", Cond.methodLink RX1 95 yX1_worstOf, Cond.instanceMethod yX1_worstOf, Cond.selects RX1 yX1_worstOf yX1_worstOf, Cond.code yX1_worstOf cX1_worstOf 5 (some .int), Cond.methodLink RX1 88 yX1_offOf, Cond.static yX1_offOf, Cond.code yX1_offOf cX1_offOf 2 (some .int), Cond.methodLink RX1 79 yX1_ones]
def wsX1_fewest_r3 : List Cond := [Cond.static yX1_ones, Cond.code yX1_ones cX1_ones 3 (some .int), Cond.methodLink RX1 82 yX1_size, Cond.static yX1_size, Cond.code yX1_size cX1_size 1 (some .int), Cond.methodLink RX1 98 yX1_squaresOf, Cond.instanceMethod yX1_squaresOf, Cond.selects RX1 yX1_squaresOf yX1_squaresOf, Cond.code yX1_squaresOf cX1_squaresOf 5 (some .int)]
def wsX1_fewest : List Cond := .code yX1_fewest cX1_fewest 2 (some .int) :: ((wsX1_fewest_r1 ++ (wsX1_fewest_r2 ++ wsX1_fewest_r3)) ++ wsX10)
def wsX1_turns : List Cond := .code yX1_turns cX1_turns 1 (some .int) :: ([.fieldLink RX1 7 "TwoColoursModel" "n" "I"] ++ wsX10)
def wsX1_partner : List Cond := .code yX1_partner cX1_partner 5 (some .int) :: ([.fieldLink RX1 7 "TwoColoursModel" "n" "I", .fieldLink RX1 13 "TwoColoursModel" "second" "[I", .methodLink RX1 55 yX1_placeOf, .instanceMethod yX1_placeOf, .selects RX1 yX1_placeOf yX1_placeOf, .initialized RX1, .code yX1_placeOf cX1_placeOf 3 (some .int)] ++ wsX10)
def wsX1_pairs : List Cond := .code yX1_pairs cX1_pairs 6 (some .int) :: ([.fieldLink RX1 7 "TwoColoursModel" "n" "I", .fieldLink RX1 38 "TwoColoursModel" "colour" "[I", .methodLink RX1 118 yX1_partner, .instanceMethod yX1_partner, .selects RX1 yX1_partner yX1_partner, .initialized RX1, .code yX1_partner cX1_partner 5 (some .int), .fieldLink RX1 13 "TwoColoursModel" "second" "[I", .methodLink RX1 55 yX1_placeOf, .instanceMethod yX1_placeOf, .selects RX1 yX1_placeOf yX1_placeOf, .code yX1_placeOf cX1_placeOf 3 (some .int)] ++ wsX10)
def wsX1_come_r1 : List Cond := [Cond.fieldLink RX1 7 "TwoColoursModel" "n" "I", Cond.fieldLink RX1 41 "TwoColoursModel" "heaps" "I", Cond.fieldLink RX1 35 "TwoColoursModel" "heapBits" "[I", Cond.fieldLink RX1 17 "TwoColoursModel" "held" "[I", Cond.methodLink RX1 92 yX1_collect, Cond.instanceMethod yX1_collect, Cond.selects RX1 yX1_collect yX1_collect, Cond.initialized RX1, Cond.code yX1_collect cX1_collect 2 none, Cond.methodLink RX1 76 yX1_bitsOf, Cond.instanceMethod yX1_bitsOf, Cond.selects RX1 yX1_bitsOf yX1_bitsOf, Cond.code yX1_bitsOf cX1_bitsOf 4 (some .int), Cond.methodLink RX1 72 yX1_holds, Cond.instanceMethod yX1_holds, Cond.selects RX1 yX1_holds yX1_holds, Cond.code yX1_holds cX1_holds 3 (some .boolean), Cond.fieldLink RX1 20 "TwoColoursModel" "kind" "[I", Cond.fieldLink RX1 23 "TwoColoursModel" "from" "[I", Cond.fieldLink RX1 26 "TwoColoursModel" "to" "[I", Cond.methodLink RX1 44 yX1_in, Cond.static yX1_in, Cond.code yX1_in cX1_in 3 (some .boolean), Cond.methodLink RX1 55 yX1_placeOf]
def wsX1_come_r2 : List Cond := [Cond.instanceMethod yX1_placeOf, Cond.selects RX1 yX1_placeOf yX1_placeOf, Cond.code yX1_placeOf cX1_placeOf 3 (some .int), Cond.fieldLink RX1 13 "TwoColoursModel" "second" "[I", Cond.methodLink RX1 79 yX1_ones, Cond.static yX1_ones, Cond.code yX1_ones cX1_ones 3 (some .int)]
def wsX1_come : List Cond := .code yX1_come cX1_come 6 (some .int) :: ((wsX1_come_r1 ++ wsX1_come_r2) ++ wsX10)
def wsX1_step : List Cond := .code yX1_step cX1_step 3 (some .int) :: ([.fieldLink RX1 122 "TwoColoursModel" "steps" "I", .fieldLink RX1 29 "TwoColoursModel" "stepX" "[I", .fieldLink RX1 32 "TwoColoursModel" "stepY" "[I", .methodLink RX1 44 yX1_in, .static yX1_in, .initialized RX1, .code yX1_in cX1_in 3 (some .boolean)] ++ wsX10)
def wsX1_clear : List Cond := .code yX1_clear cX1_clear 2 (some .int) :: ([.fieldLink RX1 122 "TwoColoursModel" "steps" "I"] ++ wsX10)
def wsX1_far : List Cond := .code yX1_far cX1_far 2 (some .int) :: ([.methodLink RX1 82 yX1_size, .static yX1_size, .initialized RX1, .code yX1_size cX1_size 1 (some .int)])
def wsX1_strayOf : List Cond := .code yX1_strayOf cX1_strayOf 7 (some .int) :: ([.fieldLink RX1 122 "TwoColoursModel" "steps" "I", .fieldLink RX1 29 "TwoColoursModel" "stepX" "[I", .fieldLink RX1 32 "TwoColoursModel" "stepY" "[I", .methodLink RX1 125 yX1_far, .static yX1_far, .initialized RX1, .code yX1_far cX1_far 2 (some .int), .methodLink RX1 82 yX1_size, .static yX1_size, .code yX1_size cX1_size 1 (some .int)] ++ wsX10)
def wsX1_stray : List Cond := .code yX1_stray cX1_stray 2 (some .int) :: ([.fieldLink RX1 122 "TwoColoursModel" "steps" "I", .methodLink RX1 44 yX1_in, .static yX1_in, .initialized RX1, .code yX1_in cX1_in 3 (some .boolean), .methodLink RX1 128 yX1_strayOf, .instanceMethod yX1_strayOf, .selects RX1 yX1_strayOf yX1_strayOf, .code yX1_strayOf cX1_strayOf 7 (some .int), .fieldLink RX1 29 "TwoColoursModel" "stepX" "[I", .fieldLink RX1 32 "TwoColoursModel" "stepY" "[I", .methodLink RX1 125 yX1_far, .static yX1_far, .code yX1_far cX1_far 2 (some .int), .methodLink RX1 82 yX1_size, .static yX1_size, .code yX1_size cX1_size 1 (some .int)] ++ wsX10)
def wsX1_nearest : List Cond := .code yX1_nearest cX1_nearest 7 (some .int) :: ([.fieldLink RX1 122 "TwoColoursModel" "steps" "I", .fieldLink RX1 29 "TwoColoursModel" "stepX" "[I", .fieldLink RX1 32 "TwoColoursModel" "stepY" "[I", .methodLink RX1 125 yX1_far, .static yX1_far, .initialized RX1, .code yX1_far cX1_far 2 (some .int), .methodLink RX1 82 yX1_size, .static yX1_size, .code yX1_size cX1_size 1 (some .int)] ++ wsX10)
def wsX1_straight : List Cond := .code yX1_straight cX1_straight 6 (some .int) :: ([.fieldLink RX1 122 "TwoColoursModel" "steps" "I", .methodLink RX1 44 yX1_in, .static yX1_in, .initialized RX1, .code yX1_in cX1_in 3 (some .boolean), .methodLink RX1 131 yX1_nearest, .instanceMethod yX1_nearest, .selects RX1 yX1_nearest yX1_nearest, .code yX1_nearest cX1_nearest 7 (some .int), .fieldLink RX1 29 "TwoColoursModel" "stepX" "[I", .fieldLink RX1 32 "TwoColoursModel" "stepY" "[I", .methodLink RX1 125 yX1_far, .static yX1_far, .code yX1_far cX1_far 2 (some .int), .methodLink RX1 82 yX1_size, .static yX1_size, .code yX1_size cX1_size 1 (some .int), .methodLink RX1 128 yX1_strayOf, .instanceMethod yX1_strayOf, .selects RX1 yX1_strayOf yX1_strayOf, .code yX1_strayOf cX1_strayOf 7 (some .int)] ++ wsX10)
def wsX1_count : List Cond := .code yX1_count cX1_count 4 (some .int) :: ([.fieldLink RX1 7 "TwoColoursModel" "n" "I", .fieldLink RX1 41 "TwoColoursModel" "heaps" "I", .fieldLink RX1 122 "TwoColoursModel" "steps" "I", .fieldLink RX1 17 "TwoColoursModel" "held" "[I"] ++ wsX10)
def wsX1_trace : List Cond := .code yX1_trace cX1_trace 1 (some .long) :: ([.fieldLink RX1 62 "TwoColoursModel" "trace" "J"] ++ wsX10)
def wsJ9_abs_0f7a4 : List Cond := .code yJ9_abs_0f7a4 cJ9_abs_0f7a4 1 (some .int) :: ([])
def wsJ9_max_7cf53 : List Cond := .code yJ9_max_7cf53 cJ9_max_7cf53 2 (some .int) :: ([])
def wsJ9_min_7cf53 : List Cond := .code yJ9_min_7cf53 cJ9_min_7cf53 2 (some .int) :: ([])
def wsL_law_r1 : List Cond := [Cond.classLink RL 7 RX0, Cond.instantiable RX0 15, Cond.initialized RX0, Cond.classLink RL 10 RX1, Cond.instantiable RX1 16, Cond.initialized RX1, Cond.methodLink RL 9 yX0_init, Cond.instanceMethod yX0_init, Cond.code yX0_init cX0_init 1 none, Cond.methodLink RX0 1 objectInit, Cond.instanceMethod objectInit, Cond.code objectInit ⟨#[0xb1]⟩ 1 none, Cond.fieldLink RX0 7 "TwoColours" "thingCount" "I", Cond.arrayClass .int, Cond.fieldLink RX0 13 "TwoColours" "thingAt" "[I", Cond.fieldLink RX0 17 "TwoColours" "placeOf" "[I", Cond.fieldLink RX0 20 "TwoColours" "heldThings" "I", Cond.fieldLink RX0 23 "TwoColours" "heldColours" "I", Cond.fieldLink RX0 26 "TwoColours" "colourByPairs" "[I", Cond.fieldLink RX0 29 "TwoColours" "heapCount" "I", Cond.fieldLink RX0 32 "TwoColours" "heapKind" "[I", Cond.fieldLink RX0 35 "TwoColours" "heapA" "[I", Cond.fieldLink RX0 38 "TwoColours" "heapB" "[I", Cond.fieldLink RX0 41 "TwoColours" "heapBits" "[I"]
def wsL_law_r2 : List Cond := [Cond.fieldLink RX0 44 "TwoColours" "stepCount" "I", Cond.fieldLink RX0 47 "TwoColours" "stepX" "[I", Cond.fieldLink RX0 50 "TwoColours" "stepY" "[I", Cond.fieldLink RX0 53 "TwoColours" "asked" "J", Cond.methodLink RX0 57 yX0_orderByNumbers, Cond.instanceMethod yX0_orderByNumbers, Cond.selects RX0 yX0_orderByNumbers yX0_orderByNumbers, Cond.code yX0_orderByNumbers cX0_orderByNumbers 2 none, Cond.methodLink RX0 64 yX0_putAt, Cond.instanceMethod yX0_putAt, Cond.selects RX0 yX0_putAt yX0_putAt, Cond.code yX0_putAt cX0_putAt 3 none, Cond.methodLink RL 12 yX1_init, Cond.instanceMethod yX1_init, Cond.code yX1_init cX1_init 1 none, Cond.methodLink RX1 1 objectInit, Cond.fieldLink RX1 7 "TwoColoursModel" "n" "I", Cond.fieldLink RX1 13 "TwoColoursModel" "second" "[I", Cond.fieldLink RX1 17 "TwoColoursModel" "held" "[I", Cond.fieldLink RX1 20 "TwoColoursModel" "kind" "[I", Cond.fieldLink RX1 23 "TwoColoursModel" "from" "[I", Cond.fieldLink RX1 26 "TwoColoursModel" "to" "[I", Cond.fieldLink RX1 29 "TwoColoursModel" "stepX" "[I", Cond.fieldLink RX1 32 "TwoColoursModel" "stepY" "[I"]
def wsL_law_r3 : List Cond := [Cond.fieldLink RX1 35 "TwoColoursModel" "heapBits" "[I", Cond.fieldLink RX1 38 "TwoColoursModel" "colour" "[I", Cond.fieldLink RX1 41 "TwoColoursModel" "heaps" "I", Cond.methodLink RL 13 yX0_things, Cond.instanceMethod yX0_things, Cond.selects RX0 yX0_things yX0_things, Cond.code yX0_things cX0_things 3 (some .int), Cond.methodLink RL 17 yX1_things, Cond.instanceMethod yX1_things, Cond.selects RX1 yX1_things yX1_things, Cond.code yX1_things cX1_things 4 (some .int), Cond.methodLink RX1 44 yX1_in, Cond.static yX1_in, Cond.code yX1_in cX1_in 3 (some .boolean), Cond.methodLink RL 18 yX0_swap, Cond.instanceMethod yX0_swap, Cond.selects RX0 yX0_swap yX0_swap, Cond.code yX0_swap cX0_swap 6 (some .int), Cond.methodLink RX0 60 yX0_isThing, Cond.instanceMethod yX0_isThing, Cond.selects RX0 yX0_isThing yX0_isThing, Cond.code yX0_isThing cX0_isThing 2 (some .boolean), Cond.methodLink RX0 68 yX0_thingsOf, Cond.instanceMethod yX0_thingsOf]
def wsL_law_r4 : List Cond := [Cond.selects RX0 yX0_thingsOf yX0_thingsOf, Cond.code yX0_thingsOf cX0_thingsOf 6 (some .int), Cond.methodLink RX0 93 yX0_belongs, Cond.instanceMethod yX0_belongs, Cond.selects RX0 yX0_belongs yX0_belongs, Cond.code yX0_belongs cX0_belongs 5 (some .boolean), Cond.methodLink RX0 97 yX0_isWithin, Cond.static yX0_isWithin, Cond.code yX0_isWithin cX0_isWithin 3 (some .boolean), Cond.methodLink RX0 83 yX0_bitOf, Cond.static yX0_bitOf, Cond.code yX0_bitOf cX0_bitOf 2 (some .int), Cond.methodLink RL 22 yX1_swap, Cond.instanceMethod yX1_swap, Cond.selects RX1 yX1_swap yX1_swap, Cond.code yX1_swap cX1_swap 4 (some .int), Cond.methodLink RX1 48 yX1_isThing, Cond.instanceMethod yX1_isThing, Cond.selects RX1 yX1_isThing yX1_isThing, Cond.code yX1_isThing cX1_isThing 2 (some .boolean), Cond.methodLink RL 23 yX0_second, Cond.instanceMethod yX0_second, Cond.selects RX0 yX0_second yX0_second, Cond.code yX0_second cX0_second 2 (some .int)]
def wsL_law_r5 : List Cond := [Cond.methodLink RL 26 yX1_second, Cond.instanceMethod yX1_second, Cond.selects RX1 yX1_second yX1_second, Cond.code yX1_second cX1_second 2 (some .int), Cond.methodLink RL 27 yX0_heap, Cond.instanceMethod yX0_heap, Cond.selects RX0 yX0_heap yX0_heap, Cond.code yX0_heap cX0_heap 5 (some .int), Cond.methodLink RX0 72 yX0_canBeHeap, Cond.instanceMethod yX0_canBeHeap, Cond.selects RX0 yX0_canBeHeap yX0_canBeHeap, Cond.code yX0_canBeHeap cX0_canBeHeap 4 (some .boolean), Cond.methodLink RX0 90 yX0_isColouring, Cond.instanceMethod yX0_isColouring, Cond.selects RX0 yX0_isColouring yX0_isColouring, Cond.code yX0_isColouring cX0_isColouring 2 (some .boolean), Cond.methodLink RX0 118 yX0_colouringCount, Cond.instanceMethod yX0_colouringCount, Cond.selects RX0 yX0_colouringCount yX0_colouringCount, Cond.code yX0_colouringCount cX0_colouringCount 1 (some .int), Cond.methodLink RL 31 yX1_heap, Cond.instanceMethod yX1_heap, Cond.selects RX1 yX1_heap yX1_heap, Cond.code yX1_heap cX1_heap 4 (some .int)]
def wsL_law_r6 : List Cond := [Cond.methodLink RX1 52 yX1_isWell, Cond.instanceMethod yX1_isWell, Cond.selects RX1 yX1_isWell yX1_isWell, Cond.code yX1_isWell cX1_isWell 4 (some .boolean), Cond.methodLink RL 32 yX0_drop, Cond.instanceMethod yX0_drop, Cond.selects RX0 yX0_drop yX0_drop, Cond.code yX0_drop cX0_drop 1 (some .int), Cond.methodLink RL 36 yX1_drop, Cond.instanceMethod yX1_drop, Cond.selects RX1 yX1_drop yX1_drop, Cond.code yX1_drop cX1_drop 1 (some .int), Cond.methodLink RL 37 yX0_has, Cond.instanceMethod yX0_has, Cond.selects RX0 yX0_has yX0_has, Cond.code yX0_has cX0_has 3 (some .int), Cond.methodLink RX0 76 yX0_isHeap, Cond.instanceMethod yX0_isHeap, Cond.selects RX0 yX0_isHeap yX0_isHeap, Cond.code yX0_isHeap cX0_isHeap 2 (some .boolean), Cond.methodLink RX0 79 yX0_traceOf, Cond.static yX0_traceOf, Cond.code yX0_traceOf cX0_traceOf 1 (some .int), Cond.methodLink RL 40 yX1_has]
def wsL_law_r7 : List Cond := [Cond.instanceMethod yX1_has, Cond.selects RX1 yX1_has yX1_has, Cond.code yX1_has cX1_has 3 (some .int), Cond.fieldLink RX1 62 "TwoColoursModel" "trace" "J", Cond.constantLong RX1 66 (10), Cond.constantLong RX1 68 (110), Cond.constantLong RX1 70 (1000), Cond.methodLink RX1 59 yX1_isHeap, Cond.instanceMethod yX1_isHeap, Cond.selects RX1 yX1_isHeap yX1_isHeap, Cond.code yX1_isHeap cX1_isHeap 2 (some .boolean), Cond.methodLink RX1 72 yX1_holds, Cond.instanceMethod yX1_holds, Cond.selects RX1 yX1_holds yX1_holds, Cond.code yX1_holds cX1_holds 3 (some .boolean), Cond.methodLink RX1 55 yX1_placeOf, Cond.instanceMethod yX1_placeOf, Cond.selects RX1 yX1_placeOf yX1_placeOf, Cond.code yX1_placeOf cX1_placeOf 3 (some .int), Cond.methodLink RL 41 yX0_bits, Cond.instanceMethod yX0_bits, Cond.selects RX0 yX0_bits yX0_bits, Cond.code yX0_bits cX0_bits 2 (some .int), Cond.methodLink RL 44 yX1_bits]
def wsL_law_r8 : List Cond := [Cond.instanceMethod yX1_bits, Cond.selects RX1 yX1_bits yX1_bits, Cond.code yX1_bits cX1_bits 2 (some .int), Cond.methodLink RX1 76 yX1_bitsOf, Cond.instanceMethod yX1_bitsOf, Cond.selects RX1 yX1_bitsOf yX1_bitsOf, Cond.code yX1_bitsOf cX1_bitsOf 4 (some .int), Cond.methodLink RL 45 yX0_hold, Cond.instanceMethod yX0_hold, Cond.selects RX0 yX0_hold yX0_hold, Cond.code yX0_hold cX0_hold 5 (some .int), Cond.methodLink RX0 87 yX0_isHeld, Cond.instanceMethod yX0_isHeld, Cond.selects RX0 yX0_isHeld yX0_isHeld, Cond.code yX0_isHeld cX0_isHeld 2 (some .boolean), Cond.methodLink RL 48 yX1_hold, Cond.instanceMethod yX1_hold, Cond.selects RX1 yX1_hold yX1_hold, Cond.code yX1_hold cX1_hold 4 (some .int), Cond.methodLink RL 49 yX0_off, Cond.instanceMethod yX0_off, Cond.selects RX0 yX0_off yX0_off, Cond.code yX0_off cX0_off 3 (some .int), Cond.methodLink RX0 100 yX0_offOf]
def wsL_law_r9 : List Cond := [Cond.instanceMethod yX0_offOf, Cond.selects RX0 yX0_offOf yX0_offOf, Cond.code yX0_offOf cX0_offOf 3 (some .int), Cond.methodLink RX0 148 Lib.Math.abs.name, Cond.static Lib.Math.abs.name, Cond.initialized "java/lang/Math", Cond.code Lib.Math.abs.name Lib.Math.abs.code 1 (some .int), Cond.methodLink RX0 145 yX0_leaning, Cond.static yX0_leaning, Cond.code yX0_leaning cX0_leaning 2 (some .int), Cond.methodLink RX0 140 yJ6_bitCount_0f7a4, Cond.static yJ6_bitCount_0f7a4, Cond.initialized RJ6, Cond.code yJ6_bitCount_0f7a4 cJ6_bitCount_0f7a4 1 (some .int), Cond.constant RJ6 265 (1431655765), Cond.constant RJ6 266 (858993459), Cond.constant RJ6 267 (252645135), Cond.methodLink RL 52 yX1_off, Cond.instanceMethod yX1_off, Cond.selects RX1 yX1_off yX1_off, Cond.code yX1_off cX1_off 3 (some .int), Cond.methodLink RX1 85 yX1_isColouring, Cond.instanceMethod yX1_isColouring, Cond.selects RX1 yX1_isColouring yX1_isColouring]
def wsL_law_r10 : List Cond := [Cond.code yX1_isColouring cX1_isColouring 2 (some .boolean), Cond.methodLink RX1 88 yX1_offOf, Cond.static yX1_offOf, Cond.code yX1_offOf cX1_offOf 2 (some .int), Cond.methodLink RX1 79 yX1_ones, Cond.static yX1_ones, Cond.code yX1_ones cX1_ones 3 (some .int), Cond.methodLink RX1 82 yX1_size, Cond.static yX1_size, Cond.code yX1_size cX1_size 1 (some .int), Cond.methodLink RL 53 yX0_worst, Cond.instanceMethod yX0_worst, Cond.selects RX0 yX0_worst yX0_worst, Cond.code yX0_worst cX0_worst 2 (some .int), Cond.methodLink RX0 103 yX0_worstOf, Cond.instanceMethod yX0_worstOf, Cond.selects RX0 yX0_worstOf yX0_worstOf, Cond.code yX0_worstOf cX0_worstOf 4 (some .int), Cond.methodLink RX0 109 Lib.Math.max.name, Cond.static Lib.Math.max.name, Cond.code Lib.Math.max.name Lib.Math.max.code 2 (some .int), Cond.methodLink RL 56 yX1_worst, Cond.instanceMethod yX1_worst, Cond.selects RX1 yX1_worst yX1_worst]
def wsL_law_r11 : List Cond := [Cond.code yX1_worst cX1_worst 2 (some .int), Cond.methodLink RX1 92 yX1_collect, Cond.instanceMethod yX1_collect, Cond.selects RX1 yX1_collect yX1_collect, Cond.code yX1_collect cX1_collect 2 none, Cond.methodLink RX1 95 yX1_worstOf, Cond.instanceMethod yX1_worstOf, Cond.selects RX1 yX1_worstOf yX1_worstOf, Cond.code yX1_worstOf cX1_worstOf 5 (some .int), Cond.methodLink RL 57 yX0_squares, Cond.instanceMethod yX0_squares, Cond.selects RX0 yX0_squares yX0_squares, Cond.code yX0_squares cX0_squares 2 (some .int), Cond.methodLink RX0 106 yX0_squaresOf, Cond.instanceMethod yX0_squaresOf, Cond.selects RX0 yX0_squaresOf yX0_squaresOf, Cond.code yX0_squaresOf cX0_squaresOf 5 (some .int), Cond.methodLink RL 60 yX1_squares, Cond.instanceMethod yX1_squares, Cond.selects RX1 yX1_squares yX1_squares, Cond.code yX1_squares cX1_squares 2 (some .int), Cond.methodLink RX1 98 yX1_squaresOf, Cond.instanceMethod yX1_squaresOf, Cond.selects RX1 yX1_squaresOf yX1_squaresOf]
def wsL_law_r12 : List Cond := [Cond.code yX1_squaresOf cX1_squaresOf 5 (some .int), Cond.methodLink RL 61 yX0_times, Cond.instanceMethod yX0_times, Cond.selects RX0 yX0_times yX0_times, Cond.code yX0_times cX0_times 5 (some .int), Cond.methodLink RL 64 yX1_times, Cond.instanceMethod yX1_times, Cond.selects RX1 yX1_times yX1_times, Cond.code yX1_times cX1_times 5 (some .int), Cond.methodLink RL 65 yX0_least, Cond.instanceMethod yX0_least, Cond.selects RX0 yX0_least yX0_least, Cond.code yX0_least cX0_least 1 (some .int), Cond.methodLink RX0 114 yX0_firstLeast, Cond.instanceMethod yX0_firstLeast, Cond.selects RX0 yX0_firstLeast yX0_firstLeast, Cond.code yX0_firstLeast cX0_firstLeast 5 (some .int), Cond.methodLink RX0 121 yX0_keepsToHeld, Cond.instanceMethod yX0_keepsToHeld, Cond.selects RX0 yX0_keepsToHeld yX0_keepsToHeld, Cond.code yX0_keepsToHeld cX0_keepsToHeld 2 (some .boolean), Cond.methodLink RL 68 yX1_least, Cond.instanceMethod yX1_least, Cond.selects RX1 yX1_least yX1_least]
def wsL_law_r13 : List Cond := [Cond.code yX1_least cX1_least 1 (some .int), Cond.methodLink RX1 114 yX1_goThrough, Cond.instanceMethod yX1_goThrough, Cond.selects RX1 yX1_goThrough yX1_goThrough, Cond.code yX1_goThrough cX1_goThrough 5 (some .int), Cond.constant RX1 101 (1000000), Cond.fieldLink RX1 102 "TwoColoursModel" "foundFewest" "I", Cond.fieldLink RX1 108 "TwoColoursModel" "foundFirst" "I", Cond.fieldLink RX1 111 "TwoColoursModel" "foundMany" "I", Cond.methodLink RX1 105 yX1_keeps, Cond.instanceMethod yX1_keeps, Cond.selects RX1 yX1_keeps yX1_keeps, Cond.code yX1_keeps cX1_keeps 4 (some .boolean), Cond.methodLink RL 69 yX0_first, Cond.instanceMethod yX0_first, Cond.selects RX0 yX0_first yX0_first, Cond.code yX0_first cX0_first 1 (some .int), Cond.methodLink RL 72 yX1_first, Cond.instanceMethod yX1_first, Cond.selects RX1 yX1_first yX1_first, Cond.code yX1_first cX1_first 2 (some .int), Cond.methodLink RL 73 yX0_many, Cond.instanceMethod yX0_many, Cond.selects RX0 yX0_many yX0_many]
def wsL_law_r14 : List Cond := [Cond.code yX0_many cX0_many 5 (some .int), Cond.methodLink RL 76 yX1_many, Cond.instanceMethod yX1_many, Cond.selects RX1 yX1_many yX1_many, Cond.code yX1_many cX1_many 2 (some .int), Cond.methodLink RL 77 yX0_fewest, Cond.instanceMethod yX0_fewest, Cond.selects RX0 yX0_fewest yX0_fewest, Cond.code yX0_fewest cX0_fewest 3 (some .int), Cond.methodLink RX0 124 Lib.Math.min.name, Cond.static Lib.Math.min.name, Cond.code Lib.Math.min.name Lib.Math.min.code 2 (some .int), Cond.methodLink RL 80 yX1_fewest, Cond.instanceMethod yX1_fewest, Cond.selects RX1 yX1_fewest yX1_fewest, Cond.code yX1_fewest cX1_fewest 2 (some .int), Cond.methodLink RL 81 yX0_turns, Cond.instanceMethod yX0_turns, Cond.selects RX0 yX0_turns yX0_turns, Cond.code yX0_turns cX0_turns 3 (some .int), Cond.methodLink RL 84 yX1_turns, Cond.instanceMethod yX1_turns, Cond.selects RX1 yX1_turns yX1_turns, Cond.code yX1_turns cX1_turns 1 (some .int)]
def wsL_law_r15 : List Cond := [Cond.methodLink RL 85 yX0_pairs, Cond.instanceMethod yX0_pairs, Cond.selects RX0 yX0_pairs yX0_pairs, Cond.code yX0_pairs cX0_pairs 3 (some .int), Cond.methodLink RX0 127 yJ7_fill_53178, Cond.static yJ7_fill_53178, Cond.initialized RJ7, Cond.code yJ7_fill_53178 cJ7_fill_53178 4 none, Cond.methodLink RX0 133 yX0_colourAlongPairs, Cond.instanceMethod yX0_colourAlongPairs, Cond.selects RX0 yX0_colourAlongPairs yX0_colourAlongPairs, Cond.code yX0_colourAlongPairs cX0_colourAlongPairs 7 none, Cond.methodLink RX0 151 yX0_partnerInFirstOrder, Cond.instanceMethod yX0_partnerInFirstOrder, Cond.selects RX0 yX0_partnerInFirstOrder yX0_partnerInFirstOrder, Cond.code yX0_partnerInFirstOrder cX0_partnerInFirstOrder 3 (some .int), Cond.methodLink RX0 154 yX0_partnerInSecondOrder, Cond.instanceMethod yX0_partnerInSecondOrder, Cond.selects RX0 yX0_partnerInSecondOrder yX0_partnerInSecondOrder, Cond.code yX0_partnerInSecondOrder cX0_partnerInSecondOrder 3 (some .int), Cond.methodLink RL 88 yX1_pairs, Cond.instanceMethod yX1_pairs, Cond.selects RX1 yX1_pairs yX1_pairs, Cond.code yX1_pairs cX1_pairs 6 (some .int)]
def wsL_law_r16 : List Cond := [Cond.methodLink RX1 118 yX1_partner, Cond.instanceMethod yX1_partner, Cond.selects RX1 yX1_partner yX1_partner, Cond.code yX1_partner cX1_partner 5 (some .int), Cond.methodLink RL 89 yX0_come, Cond.instanceMethod yX0_come, Cond.selects RX0 yX0_come yX0_come, Cond.code yX0_come cX0_come 3 (some .int), Cond.methodLink RX0 137 yX0_colourOnComing, Cond.instanceMethod yX0_colourOnComing, Cond.selects RX0 yX0_colourOnComing yX0_colourOnComing, Cond.code yX0_colourOnComing cX0_colourOnComing 6 (some .int), Cond.methodLink RL 92 yX1_come, Cond.instanceMethod yX1_come, Cond.selects RX1 yX1_come yX1_come, Cond.code yX1_come cX1_come 6 (some .int), Cond.methodLink RL 93 yX0_step, Cond.instanceMethod yX0_step, Cond.selects RX0 yX0_step yX0_step, Cond.code yX0_step cX0_step 4 (some .int), Cond.methodLink RX0 157 yX0_isStepLength, Cond.static yX0_isStepLength, Cond.code yX0_isStepLength cX0_isStepLength 1 (some .boolean), Cond.methodLink RL 96 yX1_step]
def wsL_law_r17 : List Cond := [Cond.instanceMethod yX1_step, Cond.selects RX1 yX1_step yX1_step, Cond.code yX1_step cX1_step 3 (some .int), Cond.fieldLink RX1 122 "TwoColoursModel" "steps" "I", Cond.methodLink RL 97 yX0_clear, Cond.instanceMethod yX0_clear, Cond.selects RX0 yX0_clear yX0_clear, Cond.code yX0_clear cX0_clear 2 (some .int), Cond.methodLink RL 100 yX1_clear, Cond.instanceMethod yX1_clear, Cond.selects RX1 yX1_clear yX1_clear, Cond.code yX1_clear cX1_clear 2 (some .int), Cond.methodLink RL 101 yX0_stray, Cond.instanceMethod yX0_stray, Cond.selects RX0 yX0_stray yX0_stray, Cond.code yX0_stray cX0_stray 2 (some .int), Cond.methodLink RX0 160 yX0_signingCount, Cond.instanceMethod yX0_signingCount, Cond.selects RX0 yX0_signingCount yX0_signingCount, Cond.code yX0_signingCount cX0_signingCount 1 (some .int), Cond.methodLink RX0 163 yX0_strayOf, Cond.instanceMethod yX0_strayOf, Cond.selects RX0 yX0_strayOf yX0_strayOf, Cond.code yX0_strayOf cX0_strayOf 7 (some .int)]
def wsL_law_r18 : List Cond := [Cond.methodLink RX0 172 yX0_greaterSize, Cond.static yX0_greaterSize, Cond.code yX0_greaterSize cX0_greaterSize 2 (some .int), Cond.methodLink RL 104 yX1_stray, Cond.instanceMethod yX1_stray, Cond.selects RX1 yX1_stray yX1_stray, Cond.code yX1_stray cX1_stray 2 (some .int), Cond.methodLink RX1 128 yX1_strayOf, Cond.instanceMethod yX1_strayOf, Cond.selects RX1 yX1_strayOf yX1_strayOf, Cond.code yX1_strayOf cX1_strayOf 7 (some .int), Cond.methodLink RX1 125 yX1_far, Cond.static yX1_far, Cond.code yX1_far cX1_far 2 (some .int), Cond.methodLink RL 105 yX0_straight, Cond.instanceMethod yX0_straight, Cond.selects RX0 yX0_straight yX0_straight, Cond.code yX0_straight cX0_straight 2 (some .int), Cond.methodLink RX0 166 yX0_straightest, Cond.instanceMethod yX0_straightest, Cond.selects RX0 yX0_straightest yX0_straightest, Cond.code yX0_straightest cX0_straightest 5 (some .int), Cond.methodLink RX0 169 yX0_nearest, Cond.instanceMethod yX0_nearest]
def wsL_law_r19 : List Cond := [Cond.selects RX0 yX0_nearest yX0_nearest, Cond.code yX0_nearest cX0_nearest 6 (some .int), Cond.methodLink RL 108 yX1_straight, Cond.instanceMethod yX1_straight, Cond.selects RX1 yX1_straight yX1_straight, Cond.code yX1_straight cX1_straight 6 (some .int), Cond.methodLink RX1 131 yX1_nearest, Cond.instanceMethod yX1_nearest, Cond.selects RX1 yX1_nearest yX1_nearest, Cond.code yX1_nearest cX1_nearest 7 (some .int), Cond.methodLink RL 109 yX0_count, Cond.instanceMethod yX0_count, Cond.selects RX0 yX0_count yX0_count, Cond.code yX0_count cX0_count 2 (some .int), Cond.methodLink RL 112 yX1_count, Cond.instanceMethod yX1_count, Cond.selects RX1 yX1_count yX1_count, Cond.code yX1_count cX1_count 4 (some .int), Cond.methodLink RL 113 yX0_trace, Cond.instanceMethod yX0_trace, Cond.selects RX0 yX0_trace yX0_trace, Cond.code yX0_trace cX0_trace 1 (some .long), Cond.methodLink RL 117 yX1_trace, Cond.instanceMethod yX1_trace]
def wsL_law_r20 : List Cond := [Cond.selects RX1 yX1_trace yX1_trace, Cond.code yX1_trace cX1_trace 1 (some .long)]
def wsL_law : List Cond := (wsL_law_r1 ++ (wsL_law_r2 ++ (wsL_law_r3 ++ (wsL_law_r4 ++ (wsL_law_r5 ++ (wsL_law_r6 ++ (wsL_law_r7 ++ (wsL_law_r8 ++ (wsL_law_r9 ++ (wsL_law_r10 ++ (wsL_law_r11 ++ (wsL_law_r12 ++ (wsL_law_r13 ++ (wsL_law_r14 ++ (wsL_law_r15 ++ (wsL_law_r16 ++ (wsL_law_r17 ++ (wsL_law_r18 ++ (wsL_law_r19 ++ wsL_law_r20))))))))))))))))))) ++ wsX00 ++ wsX10 ++ ([] : List Cond)
abbrev vwCl : List vw_C := [(RX0, TX0, 15), (RX1, TX1, 16)]
end
section
set_option maxRecDepth 20000 in
theorem wl_r1 : ∀ w ∈ wsL_law_r1, w ∈ lw_tbl := fun w h => (goodIn_r wsL_law_r1 [44, 45, 39, 327, 328, 40, 46, 47, 48, 49, 50, 51, 60, 106, 61, 62, 63, 64, 65, 66, 67, 68, 69, 70] (by decide +kernel) (by decide +kernel) w h).1
set_option maxRecDepth 20000 in
theorem wl_r2 : ∀ w ∈ wsL_law_r2, w ∈ lw_tbl := fun w h => (goodIn_r wsL_law_r2 [71, 72, 73, 74, 52, 54, 0, 55, 56, 58, 1, 59, 329, 330, 331, 332, 333, 334, 335, 337, 338, 339, 341, 342] (by decide +kernel) (by decide +kernel) w h).1
set_option maxRecDepth 20000 in
theorem wl_r3 : ∀ w ∈ wsL_law_r3, w ∈ lw_tbl := fun w h => (goodIn_r wsL_law_r3 [344, 348, 336, 107, 108, 109, 110, 382, 383, 384, 385, 386, 387, 388, 111, 112, 113, 114, 115, 117, 2, 118, 119, 121] (by decide +kernel) (by decide +kernel) w h).1
set_option maxRecDepth 20000 in
theorem wl_r4 : ∀ w ∈ wsL_law_r4, w ∈ lw_tbl := fun w h => (goodIn_r wsL_law_r4 [3, 122, 123, 125, 4, 126, 127, 128, 129, 130, 131, 132, 389, 390, 391, 392, 393, 395, 23, 396, 133, 134, 135, 136] (by decide +kernel) (by decide +kernel) w h).1
set_option maxRecDepth 20000 in
theorem wl_r5 : ∀ w ∈ wsL_law_r5, w ∈ lw_tbl := fun w h => (goodIn_r wsL_law_r5 [397, 398, 399, 400, 137, 138, 139, 140, 141, 143, 5, 144, 145, 147, 6, 148, 149, 151, 7, 152, 401, 402, 403, 404] (by decide +kernel) (by decide +kernel) w h).1
set_option maxRecDepth 20000 in
theorem wl_r6 : ∀ w ∈ wsL_law_r6, w ∈ lw_tbl := fun w h => (goodIn_r wsL_law_r6 [405, 407, 24, 408, 153, 154, 155, 156, 409, 410, 411, 412, 157, 158, 159, 160, 161, 163, 8, 164, 165, 166, 167, 413] (by decide +kernel) (by decide +kernel) w h).1
set_option maxRecDepth 20000 in
theorem wl_r7 : ∀ w ∈ wsL_law_r7, w ∈ lw_tbl := fun w h => (goodIn_r wsL_law_r7 [414, 415, 416, 343, 421, 422, 423, 417, 419, 25, 420, 424, 426, 26, 427, 428, 430, 27, 431, 168, 169, 170, 171, 432] (by decide +kernel) (by decide +kernel) w h).1
set_option maxRecDepth 20000 in
theorem wl_r8 : ∀ w ∈ wsL_law_r8, w ∈ lw_tbl := fun w h => (goodIn_r wsL_law_r8 [433, 434, 435, 436, 438, 28, 439, 172, 173, 174, 175, 176, 178, 9, 179, 440, 441, 442, 443, 180, 181, 182, 183, 184] (by decide +kernel) (by decide +kernel) w h).1
set_option maxRecDepth 20000 in
theorem wl_r9 : ∀ w ∈ wsL_law_r9, w ∈ lw_tbl := fun w h => (goodIn_r wsL_law_r9 [186, 10, 187, 197, 198, 42, 199, 188, 189, 190, 191, 192, 41, 193, 194, 195, 196, 444, 445, 446, 447, 448, 450, 29] (by decide +kernel) (by decide +kernel) w h).1
set_option maxRecDepth 20000 in
theorem wl_r10 : ∀ w ∈ wsL_law_r10, w ∈ lw_tbl := fun w h => (goodIn_r wsL_law_r10 [451, 452, 453, 454, 455, 456, 457, 458, 459, 460, 200, 201, 202, 203, 204, 206, 11, 207, 208, 209, 210, 461, 462, 463] (by decide +kernel) (by decide +kernel) w h).1
set_option maxRecDepth 20000 in
theorem wl_r11 : ∀ w ∈ wsL_law_r11, w ∈ lw_tbl := fun w h => (goodIn_r wsL_law_r11 [464, 465, 467, 30, 468, 469, 471, 31, 472, 211, 212, 213, 214, 215, 217, 12, 218, 473, 474, 475, 476, 477, 479, 32] (by decide +kernel) (by decide +kernel) w h).1
set_option maxRecDepth 20000 in
theorem wl_r12 : ∀ w ∈ wsL_law_r12, w ∈ lw_tbl := fun w h => (goodIn_r wsL_law_r12 [480, 219, 220, 221, 222, 481, 482, 483, 484, 223, 224, 225, 226, 227, 229, 13, 230, 231, 233, 14, 234, 485, 486, 487] (by decide +kernel) (by decide +kernel) w h).1
set_option maxRecDepth 20000 in
theorem wl_r13 : ∀ w ∈ wsL_law_r13, w ∈ lw_tbl := fun w h => (goodIn_r wsL_law_r13 [488, 489, 491, 33, 492, 493, 347, 345, 346, 494, 496, 34, 497, 235, 236, 237, 238, 498, 499, 500, 501, 239, 240, 241] (by decide +kernel) (by decide +kernel) w h).1
set_option maxRecDepth 20000 in
theorem wl_r14 : ∀ w ∈ wsL_law_r14, w ∈ lw_tbl := fun w h => (goodIn_r wsL_law_r14 [242, 502, 503, 504, 505, 243, 244, 245, 246, 247, 248, 249, 506, 507, 508, 509, 250, 251, 252, 253, 510, 511, 512, 513] (by decide +kernel) (by decide +kernel) w h).1
set_option maxRecDepth 20000 in
theorem wl_r15 : ∀ w ∈ wsL_law_r15, w ∈ lw_tbl := fun w h => (goodIn_r wsL_law_r15 [254, 255, 256, 257, 258, 259, 43, 260, 261, 263, 15, 264, 265, 267, 16, 268, 269, 271, 17, 272, 514, 515, 516, 517] (by decide +kernel) (by decide +kernel) w h).1
set_option maxRecDepth 20000 in
theorem wl_r16 : ∀ w ∈ wsL_law_r16, w ∈ lw_tbl := fun w h => (goodIn_r wsL_law_r16 [518, 520, 35, 521, 273, 274, 275, 276, 277, 279, 18, 280, 522, 523, 524, 525, 281, 282, 283, 284, 285, 286, 287, 526] (by decide +kernel) (by decide +kernel) w h).1
set_option maxRecDepth 20000 in
theorem wl_r17 : ∀ w ∈ wsL_law_r17, w ∈ lw_tbl := fun w h => (goodIn_r wsL_law_r17 [527, 528, 529, 340, 288, 289, 290, 291, 530, 531, 532, 533, 292, 293, 294, 295, 296, 298, 19, 299, 300, 302, 20, 303] (by decide +kernel) (by decide +kernel) w h).1
set_option maxRecDepth 20000 in
theorem wl_r18 : ∀ w ∈ wsL_law_r18, w ∈ lw_tbl := fun w h => (goodIn_r wsL_law_r18 [304, 305, 306, 534, 535, 536, 537, 538, 540, 36, 541, 542, 543, 544, 307, 308, 309, 310, 311, 313, 21, 314, 315, 317] (by decide +kernel) (by decide +kernel) w h).1
set_option maxRecDepth 20000 in
theorem wl_r19 : ∀ w ∈ wsL_law_r19, w ∈ lw_tbl := fun w h => (goodIn_r wsL_law_r19 [22, 318, 545, 546, 547, 548, 549, 551, 37, 552, 319, 320, 321, 322, 553, 554, 555, 556, 323, 324, 325, 326, 557, 558] (by decide +kernel) (by decide +kernel) w h).1
set_option maxRecDepth 20000 in
theorem wl_r20 : ∀ w ∈ wsL_law_r20, w ∈ lw_tbl := fun w h => (goodIn_r wsL_law_r20 [559, 560] (by decide +kernel) (by decide +kernel) w h).1
set_option maxRecDepth 20000 in
theorem wl_X0 : ∀ w ∈ wsX00, w ∈ lw_tbl := fun w h => (goodIn_r wsX00 [75, 77, 79, 81, 83, 85, 87, 89, 91, 93, 95, 97, 99, 101, 103] (by decide +kernel) (by decide +kernel) w h).1
set_option maxRecDepth 20000 in
theorem wl_X1 : ∀ w ∈ wsX10, w ∈ lw_tbl := fun w h => (goodIn_r wsX10 [349, 351, 353, 355, 357, 359, 361, 363, 365, 367, 369, 371, 373, 375, 377, 379] (by decide +kernel) (by decide +kernel) w h).1
theorem wsL_law_in : ∀ w ∈ wsL_law, w ∈ lw_tbl := List.forall_mem_append.mpr ⟨List.forall_mem_append.mpr ⟨List.forall_mem_append.mpr ⟨List.forall_mem_append.mpr ⟨wl_r1, List.forall_mem_append.mpr ⟨wl_r2, List.forall_mem_append.mpr ⟨wl_r3, List.forall_mem_append.mpr ⟨wl_r4, List.forall_mem_append.mpr ⟨wl_r5, List.forall_mem_append.mpr ⟨wl_r6, List.forall_mem_append.mpr ⟨wl_r7, List.forall_mem_append.mpr ⟨wl_r8, List.forall_mem_append.mpr ⟨wl_r9, List.forall_mem_append.mpr ⟨wl_r10, List.forall_mem_append.mpr ⟨wl_r11, List.forall_mem_append.mpr ⟨wl_r12, List.forall_mem_append.mpr ⟨wl_r13, List.forall_mem_append.mpr ⟨wl_r14, List.forall_mem_append.mpr ⟨wl_r15, List.forall_mem_append.mpr ⟨wl_r16, List.forall_mem_append.mpr ⟨wl_r17, List.forall_mem_append.mpr ⟨wl_r18, List.forall_mem_append.mpr ⟨wl_r19, wl_r20⟩⟩⟩⟩⟩⟩⟩⟩⟩⟩⟩⟩⟩⟩⟩⟩⟩⟩⟩, wl_X0⟩, wl_X1⟩, fun _ h => absurd h List.not_mem_nil⟩
theorem inlX0 : ∀ w ∈ wsX00, w ∈ wsL_law := fun _ h => List.mem_append_left _ (List.mem_append_left _ (List.mem_append_right _ h))
theorem inX0 : ∀ w ∈ wsX00, w ∈ lw_tbl := fun w h => wsL_law_in w (inlX0 w h)
theorem inlX1 : ∀ w ∈ wsX10, w ∈ wsL_law := fun _ h => List.mem_append_left _ (List.mem_append_right _ h)
end
section
theorem inX1 : ∀ w ∈ wsX10, w ∈ lw_tbl := fun w h => wsL_law_in w (inlX1 w h)
theorem inJ6 : ∀ w ∈ wsJ60, w ∈ lw_tbl := by decide +kernel
theorem inJ9 : ∀ w ∈ wsJ90, w ∈ lw_tbl := by decide +kernel
theorem inJ7 : ∀ w ∈ wsJ70, w ∈ lw_tbl := by decide +kernel
set_option maxRecDepth 20000 in
theorem ggX0_init_X0_orderByNumbers : GoodIn wsX0_init wsX0_orderByNumbers := goodIn_r _ [24, 25, 26, 27, 23, 28, 6, 7, 29, 30, 31, 32, 33, 34, 35, 36, 37, 38, 39, 40, 41, 42, 43] (by decide +kernel) (by decide +kernel)
set_option maxRecDepth 20000 in
theorem gX0_init_X0_orderByNumbers : GoodIn wsX0_init (wsV RX0 57 RX0 yX0_orderByNumbers wsX0_orderByNumbers) := goodIn_app (goodIn_of _ (by decide +kernel)) ggX0_init_X0_orderByNumbers
theorem dX0_init_0 : decode cX0_init 0 = .ok (.aload_n 0, 1) := by decide +kernel
theorem dX0_init_1 : decode cX0_init 1 = .ok (.invokespecial 1, 3) := by decide +kernel
theorem dX0_init_4 : decode cX0_init 4 = .ok (.aload_n 0, 1) := by decide +kernel
theorem dX0_init_5 : decode cX0_init 5 = .ok (.iconst 1, 1) := by decide +kernel
theorem dX0_init_6 : decode cX0_init 6 = .ok (.putfield 7, 3) := by decide +kernel
theorem dX0_init_9 : decode cX0_init 9 = .ok (.aload_n 0, 1) := by decide +kernel
theorem dX0_init_10 : decode cX0_init 10 = .ok (.bipush 12, 2) := by decide +kernel
theorem dX0_init_12 : decode cX0_init 12 = .ok (.newarray .int, 2) := by decide +kernel
theorem dX0_init_14 : decode cX0_init 14 = .ok (.putfield 13, 3) := by decide +kernel
theorem dX0_init_17 : decode cX0_init 17 = .ok (.aload_n 0, 1) := by decide +kernel
theorem dX0_init_18 : decode cX0_init 18 = .ok (.bipush 12, 2) := by decide +kernel
theorem dX0_init_20 : decode cX0_init 20 = .ok (.newarray .int, 2) := by decide +kernel
theorem dX0_init_22 : decode cX0_init 22 = .ok (.putfield 17, 3) := by decide +kernel
theorem dX0_init_25 : decode cX0_init 25 = .ok (.aload_n 0, 1) := by decide +kernel
theorem dX0_init_26 : decode cX0_init 26 = .ok (.iconst 0, 1) := by decide +kernel
theorem dX0_init_27 : decode cX0_init 27 = .ok (.putfield 20, 3) := by decide +kernel
theorem dX0_init_30 : decode cX0_init 30 = .ok (.aload_n 0, 1) := by decide +kernel
theorem dX0_init_31 : decode cX0_init 31 = .ok (.iconst 0, 1) := by decide +kernel
theorem dX0_init_32 : decode cX0_init 32 = .ok (.putfield 23, 3) := by decide +kernel
theorem dX0_init_35 : decode cX0_init 35 = .ok (.aload_n 0, 1) := by decide +kernel
theorem dX0_init_36 : decode cX0_init 36 = .ok (.bipush 12, 2) := by decide +kernel
theorem dX0_init_38 : decode cX0_init 38 = .ok (.newarray .int, 2) := by decide +kernel
theorem dX0_init_40 : decode cX0_init 40 = .ok (.putfield 26, 3) := by decide +kernel
theorem dX0_init_43 : decode cX0_init 43 = .ok (.aload_n 0, 1) := by decide +kernel
theorem dX0_init_44 : decode cX0_init 44 = .ok (.iconst 0, 1) := by decide +kernel
theorem dX0_init_45 : decode cX0_init 45 = .ok (.putfield 29, 3) := by decide +kernel
theorem dX0_init_48 : decode cX0_init 48 = .ok (.aload_n 0, 1) := by decide +kernel
theorem dX0_init_49 : decode cX0_init 49 = .ok (.bipush 10, 2) := by decide +kernel
theorem dX0_init_51 : decode cX0_init 51 = .ok (.newarray .int, 2) := by decide +kernel
theorem dX0_init_53 : decode cX0_init 53 = .ok (.putfield 32, 3) := by decide +kernel
theorem dX0_init_56 : decode cX0_init 56 = .ok (.aload_n 0, 1) := by decide +kernel
theorem dX0_init_57 : decode cX0_init 57 = .ok (.bipush 10, 2) := by decide +kernel
theorem dX0_init_59 : decode cX0_init 59 = .ok (.newarray .int, 2) := by decide +kernel
theorem dX0_init_61 : decode cX0_init 61 = .ok (.putfield 35, 3) := by decide +kernel
theorem dX0_init_64 : decode cX0_init 64 = .ok (.aload_n 0, 1) := by decide +kernel
theorem dX0_init_65 : decode cX0_init 65 = .ok (.bipush 10, 2) := by decide +kernel
theorem dX0_init_67 : decode cX0_init 67 = .ok (.newarray .int, 2) := by decide +kernel
theorem dX0_init_69 : decode cX0_init 69 = .ok (.putfield 38, 3) := by decide +kernel
theorem dX0_init_72 : decode cX0_init 72 = .ok (.aload_n 0, 1) := by decide +kernel
theorem dX0_init_73 : decode cX0_init 73 = .ok (.bipush 10, 2) := by decide +kernel
theorem dX0_init_75 : decode cX0_init 75 = .ok (.newarray .int, 2) := by decide +kernel
theorem dX0_init_77 : decode cX0_init 77 = .ok (.putfield 41, 3) := by decide +kernel
theorem dX0_init_80 : decode cX0_init 80 = .ok (.aload_n 0, 1) := by decide +kernel
theorem dX0_init_81 : decode cX0_init 81 = .ok (.iconst 0, 1) := by decide +kernel
theorem dX0_init_82 : decode cX0_init 82 = .ok (.putfield 44, 3) := by decide +kernel
theorem dX0_init_85 : decode cX0_init 85 = .ok (.aload_n 0, 1) := by decide +kernel
theorem dX0_init_86 : decode cX0_init 86 = .ok (.bipush 10, 2) := by decide +kernel
theorem dX0_init_88 : decode cX0_init 88 = .ok (.newarray .int, 2) := by decide +kernel
theorem dX0_init_90 : decode cX0_init 90 = .ok (.putfield 47, 3) := by decide +kernel
theorem dX0_init_93 : decode cX0_init 93 = .ok (.aload_n 0, 1) := by decide +kernel
theorem dX0_init_94 : decode cX0_init 94 = .ok (.bipush 10, 2) := by decide +kernel
theorem dX0_init_96 : decode cX0_init 96 = .ok (.newarray .int, 2) := by decide +kernel
theorem dX0_init_98 : decode cX0_init 98 = .ok (.putfield 50, 3) := by decide +kernel
theorem dX0_init_101 : decode cX0_init 101 = .ok (.aload_n 0, 1) := by decide +kernel
theorem dX0_init_102 : decode cX0_init 102 = .ok (.lconst 0, 1) := by decide +kernel
theorem dX0_init_103 : decode cX0_init 103 = .ok (.putfield 53, 3) := by decide +kernel
theorem dX0_init_106 : decode cX0_init 106 = .ok (.aload_n 0, 1) := by decide +kernel
theorem dX0_init_107 : decode cX0_init 107 = .ok (.invokevirtual 57, 3) := by decide +kernel
theorem dX0_init_110 : decode cX0_init 110 = .ok (.return_, 1) := by decide +kernel
set_option maxRecDepth 20000 in
theorem ggX0_things_X0_orderByNumbers : GoodIn wsX0_things wsX0_orderByNumbers := goodIn_r _ [9, 10, 11, 12, 8, 13, 14, 15, 16, 17, 18, 19, 20, 21, 22, 23, 24, 25, 26, 27, 28, 29, 30] (by decide +kernel) (by decide +kernel)
set_option maxRecDepth 20000 in
theorem gX0_things_X0_orderByNumbers : GoodIn wsX0_things (wsV RX0 57 RX0 yX0_orderByNumbers wsX0_orderByNumbers) := goodIn_app (goodIn_of _ (by decide +kernel)) ggX0_things_X0_orderByNumbers
theorem dX0_things_0 : decode cX0_things 0 = .ok (.iload_n 1, 1) := by decide +kernel
theorem dX0_things_1 : decode cX0_things 1 = .ok (.iconst 1, 1) := by decide +kernel
theorem dX0_things_2 : decode cX0_things 2 = .ok (.if_icmp .lt 9, 3) := by decide +kernel
theorem dX0_things_5 : decode cX0_things 5 = .ok (.iload_n 1, 1) := by decide +kernel
theorem dX0_things_6 : decode cX0_things 6 = .ok (.bipush 12, 2) := by decide +kernel
theorem dX0_things_8 : decode cX0_things 8 = .ok (.if_icmp .le 5, 3) := by decide +kernel
theorem dX0_things_11 : decode cX0_things 11 = .ok (.iconst (-1), 1) := by decide +kernel
theorem dX0_things_12 : decode cX0_things 12 = .ok (.ireturn, 1) := by decide +kernel
theorem dX0_things_13 : decode cX0_things 13 = .ok (.aload_n 0, 1) := by decide +kernel
theorem dX0_things_14 : decode cX0_things 14 = .ok (.getfield 7, 3) := by decide +kernel
theorem dX0_things_17 : decode cX0_things 17 = .ok (.istore_n 2, 1) := by decide +kernel
theorem dX0_things_18 : decode cX0_things 18 = .ok (.aload_n 0, 1) := by decide +kernel
theorem dX0_things_19 : decode cX0_things 19 = .ok (.iload_n 1, 1) := by decide +kernel
theorem dX0_things_20 : decode cX0_things 20 = .ok (.putfield 7, 3) := by decide +kernel
theorem dX0_things_23 : decode cX0_things 23 = .ok (.aload_n 0, 1) := by decide +kernel
theorem dX0_things_24 : decode cX0_things 24 = .ok (.iconst 0, 1) := by decide +kernel
theorem dX0_things_25 : decode cX0_things 25 = .ok (.putfield 20, 3) := by decide +kernel
theorem dX0_things_28 : decode cX0_things 28 = .ok (.aload_n 0, 1) := by decide +kernel
theorem dX0_things_29 : decode cX0_things 29 = .ok (.iconst 0, 1) := by decide +kernel
theorem dX0_things_30 : decode cX0_things 30 = .ok (.putfield 23, 3) := by decide +kernel
theorem dX0_things_33 : decode cX0_things 33 = .ok (.aload_n 0, 1) := by decide +kernel
theorem dX0_things_34 : decode cX0_things 34 = .ok (.iconst 0, 1) := by decide +kernel
theorem dX0_things_35 : decode cX0_things 35 = .ok (.putfield 29, 3) := by decide +kernel
theorem dX0_things_38 : decode cX0_things 38 = .ok (.aload_n 0, 1) := by decide +kernel
theorem dX0_things_39 : decode cX0_things 39 = .ok (.invokevirtual 57, 3) := by decide +kernel
theorem dX0_things_42 : decode cX0_things 42 = .ok (.iload_n 2, 1) := by decide +kernel
theorem dX0_things_43 : decode cX0_things 43 = .ok (.ireturn, 1) := by decide +kernel
set_option maxRecDepth 20000 in
theorem ggX0_swap_X0_isThing : GoodIn wsX0_swap wsX0_isThing := goodIn_r _ [11, 12, 32, 33, 34, 35, 36, 37, 38, 39, 40, 41, 42, 43, 44, 45, 46] (by decide +kernel) (by decide +kernel)
set_option maxRecDepth 20000 in
theorem gX0_swap_X0_isThing : GoodIn wsX0_swap (wsV RX0 60 RX0 yX0_isThing wsX0_isThing) := goodIn_app (goodIn_of _ (by decide +kernel)) ggX0_swap_X0_isThing
set_option maxRecDepth 20000 in
theorem ggX0_swap_X0_putAt : GoodIn wsX0_swap wsX0_putAt := goodIn_r _ [16, 1, 17, 32, 33, 34, 35, 36, 37, 38, 39, 40, 41, 42, 43, 44, 45, 46] (by decide +kernel) (by decide +kernel)
set_option maxRecDepth 20000 in
theorem gX0_swap_X0_putAt : GoodIn wsX0_swap (wsV RX0 64 RX0 yX0_putAt wsX0_putAt) := goodIn_app (goodIn_of _ (by decide +kernel)) ggX0_swap_X0_putAt
set_option maxRecDepth 20000 in
theorem ggX0_swap_X0_thingsOf : GoodIn wsX0_swap wsX0_thingsOf := goodIn_r _ [21, 12, 22, 23, 24, 10, 25, 17, 26, 27, 28, 29, 30, 31, 32, 33, 34, 35, 36, 37, 38, 39, 40, 41, 42, 43, 44, 45, 46] (by decide +kernel) (by decide +kernel)
set_option maxRecDepth 20000 in
theorem gX0_swap_X0_thingsOf : GoodIn wsX0_swap (wsV RX0 68 RX0 yX0_thingsOf wsX0_thingsOf) := goodIn_app (goodIn_of _ (by decide +kernel)) ggX0_swap_X0_thingsOf
theorem dX0_swap_0 : decode cX0_swap 0 = .ok (.aload_n 0, 1) := by decide +kernel
theorem dX0_swap_1 : decode cX0_swap 1 = .ok (.iload_n 1, 1) := by decide +kernel
theorem dX0_swap_2 : decode cX0_swap 2 = .ok (.invokevirtual 60, 3) := by decide +kernel
theorem dX0_swap_5 : decode cX0_swap 5 = .ok (.ifCond .eq 11, 3) := by decide +kernel
theorem dX0_swap_8 : decode cX0_swap 8 = .ok (.aload_n 0, 1) := by decide +kernel
theorem dX0_swap_9 : decode cX0_swap 9 = .ok (.iload_n 2, 1) := by decide +kernel
theorem dX0_swap_10 : decode cX0_swap 10 = .ok (.invokevirtual 60, 3) := by decide +kernel
theorem dX0_swap_13 : decode cX0_swap 13 = .ok (.ifCond .ne 5, 3) := by decide +kernel
theorem dX0_swap_16 : decode cX0_swap 16 = .ok (.iconst (-1), 1) := by decide +kernel
theorem dX0_swap_17 : decode cX0_swap 17 = .ok (.ireturn, 1) := by decide +kernel
theorem dX0_swap_18 : decode cX0_swap 18 = .ok (.aload_n 0, 1) := by decide +kernel
theorem dX0_swap_19 : decode cX0_swap 19 = .ok (.getfield 13, 3) := by decide +kernel
theorem dX0_swap_22 : decode cX0_swap 22 = .ok (.iload_n 1, 1) := by decide +kernel
theorem dX0_swap_23 : decode cX0_swap 23 = .ok (.iaload, 1) := by decide +kernel
theorem dX0_swap_24 : decode cX0_swap 24 = .ok (.istore_n 3, 1) := by decide +kernel
theorem dX0_swap_25 : decode cX0_swap 25 = .ok (.aload_n 0, 1) := by decide +kernel
theorem dX0_swap_26 : decode cX0_swap 26 = .ok (.getfield 13, 3) := by decide +kernel
theorem dX0_swap_29 : decode cX0_swap 29 = .ok (.iload_n 2, 1) := by decide +kernel
theorem dX0_swap_30 : decode cX0_swap 30 = .ok (.iaload, 1) := by decide +kernel
theorem dX0_swap_31 : decode cX0_swap 31 = .ok (.istore 4, 2) := by decide +kernel
theorem dX0_swap_33 : decode cX0_swap 33 = .ok (.aload_n 0, 1) := by decide +kernel
theorem dX0_swap_34 : decode cX0_swap 34 = .ok (.iload_n 1, 1) := by decide +kernel
theorem dX0_swap_35 : decode cX0_swap 35 = .ok (.iload 4, 2) := by decide +kernel
theorem dX0_swap_37 : decode cX0_swap 37 = .ok (.invokevirtual 64, 3) := by decide +kernel
theorem dX0_swap_40 : decode cX0_swap 40 = .ok (.aload_n 0, 1) := by decide +kernel
theorem dX0_swap_41 : decode cX0_swap 41 = .ok (.iload_n 2, 1) := by decide +kernel
theorem dX0_swap_42 : decode cX0_swap 42 = .ok (.iload_n 3, 1) := by decide +kernel
theorem dX0_swap_43 : decode cX0_swap 43 = .ok (.invokevirtual 64, 3) := by decide +kernel
theorem dX0_swap_46 : decode cX0_swap 46 = .ok (.iconst 0, 1) := by decide +kernel
theorem dX0_swap_47 : decode cX0_swap 47 = .ok (.istore 5, 2) := by decide +kernel
theorem dX0_swap_49 : decode cX0_swap 49 = .ok (.iload 5, 2) := by decide +kernel
theorem dX0_swap_51 : decode cX0_swap 51 = .ok (.aload_n 0, 1) := by decide +kernel
theorem dX0_swap_52 : decode cX0_swap 52 = .ok (.getfield 29, 3) := by decide +kernel
theorem dX0_swap_55 : decode cX0_swap 55 = .ok (.if_icmp .ge 41, 3) := by decide +kernel
theorem dX0_swap_58 : decode cX0_swap 58 = .ok (.aload_n 0, 1) := by decide +kernel
theorem dX0_swap_59 : decode cX0_swap 59 = .ok (.getfield 41, 3) := by decide +kernel
theorem dX0_swap_62 : decode cX0_swap 62 = .ok (.iload 5, 2) := by decide +kernel
theorem dX0_swap_64 : decode cX0_swap 64 = .ok (.aload_n 0, 1) := by decide +kernel
theorem dX0_swap_65 : decode cX0_swap 65 = .ok (.aload_n 0, 1) := by decide +kernel
theorem dX0_swap_66 : decode cX0_swap 66 = .ok (.getfield 32, 3) := by decide +kernel
theorem dX0_swap_69 : decode cX0_swap 69 = .ok (.iload 5, 2) := by decide +kernel
theorem dX0_swap_71 : decode cX0_swap 71 = .ok (.iaload, 1) := by decide +kernel
theorem dX0_swap_72 : decode cX0_swap 72 = .ok (.aload_n 0, 1) := by decide +kernel
theorem dX0_swap_73 : decode cX0_swap 73 = .ok (.getfield 35, 3) := by decide +kernel
theorem dX0_swap_76 : decode cX0_swap 76 = .ok (.iload 5, 2) := by decide +kernel
theorem dX0_swap_78 : decode cX0_swap 78 = .ok (.iaload, 1) := by decide +kernel
theorem dX0_swap_79 : decode cX0_swap 79 = .ok (.aload_n 0, 1) := by decide +kernel
theorem dX0_swap_80 : decode cX0_swap 80 = .ok (.getfield 38, 3) := by decide +kernel
theorem dX0_swap_83 : decode cX0_swap 83 = .ok (.iload 5, 2) := by decide +kernel
theorem dX0_swap_85 : decode cX0_swap 85 = .ok (.iaload, 1) := by decide +kernel
theorem dX0_swap_86 : decode cX0_swap 86 = .ok (.invokevirtual 68, 3) := by decide +kernel
theorem dX0_swap_89 : decode cX0_swap 89 = .ok (.iastore, 1) := by decide +kernel
theorem dX0_swap_90 : decode cX0_swap 90 = .ok (.iinc 5 1, 3) := by decide +kernel
theorem dX0_swap_93 : decode cX0_swap 93 = .ok (.goto (-44), 3) := by decide +kernel
theorem dX0_swap_96 : decode cX0_swap 96 = .ok (.iconst 1, 1) := by decide +kernel
theorem dX0_swap_97 : decode cX0_swap 97 = .ok (.ireturn, 1) := by decide +kernel
set_option maxRecDepth 20000 in
theorem ggX0_second_X0_isThing : GoodIn wsX0_second wsX0_isThing := goodIn_r _ [6, 7, 8, 9, 10, 11, 12, 13, 14, 15, 16, 17, 18, 19, 20, 21, 22] (by decide +kernel) (by decide +kernel)
set_option maxRecDepth 20000 in
theorem gX0_second_X0_isThing : GoodIn wsX0_second (wsV RX0 60 RX0 yX0_isThing wsX0_isThing) := goodIn_app (goodIn_of _ (by decide +kernel)) ggX0_second_X0_isThing
theorem dX0_second_0 : decode cX0_second 0 = .ok (.aload_n 0, 1) := by decide +kernel
theorem dX0_second_1 : decode cX0_second 1 = .ok (.iload_n 1, 1) := by decide +kernel
theorem dX0_second_2 : decode cX0_second 2 = .ok (.invokevirtual 60, 3) := by decide +kernel
theorem dX0_second_5 : decode cX0_second 5 = .ok (.ifCond .eq 12, 3) := by decide +kernel
theorem dX0_second_8 : decode cX0_second 8 = .ok (.aload_n 0, 1) := by decide +kernel
theorem dX0_second_9 : decode cX0_second 9 = .ok (.getfield 13, 3) := by decide +kernel
theorem dX0_second_12 : decode cX0_second 12 = .ok (.iload_n 1, 1) := by decide +kernel
theorem dX0_second_13 : decode cX0_second 13 = .ok (.iaload, 1) := by decide +kernel
theorem dX0_second_14 : decode cX0_second 14 = .ok (.goto 4, 3) := by decide +kernel
theorem dX0_second_17 : decode cX0_second 17 = .ok (.iconst (-1), 1) := by decide +kernel
theorem dX0_second_18 : decode cX0_second 18 = .ok (.ireturn, 1) := by decide +kernel
set_option maxRecDepth 20000 in
theorem ggX0_heap_X0_canBeHeap : GoodIn wsX0_heap wsX0_canBeHeap := goodIn_r _ [10, 11, 12, 13, 9, 14, 15, 16, 17, 18, 19, 20, 21, 22, 23, 39, 40, 41, 42, 43, 44, 45, 46, 47, 48, 49, 50, 51, 52, 53] (by decide +kernel) (by decide +kernel)
set_option maxRecDepth 20000 in
theorem gX0_heap_X0_canBeHeap : GoodIn wsX0_heap (wsV RX0 72 RX0 yX0_canBeHeap wsX0_canBeHeap) := goodIn_app (goodIn_of _ (by decide +kernel)) ggX0_heap_X0_canBeHeap
set_option maxRecDepth 20000 in
theorem ggX0_heap_X0_thingsOf : GoodIn wsX0_heap wsX0_thingsOf := goodIn_r _ [27, 19, 28, 29, 30, 9, 31, 32, 33, 34, 35, 36, 37, 38, 39, 40, 41, 42, 43, 44, 45, 46, 47, 48, 49, 50, 51, 52, 53] (by decide +kernel) (by decide +kernel)
set_option maxRecDepth 20000 in
theorem gX0_heap_X0_thingsOf : GoodIn wsX0_heap (wsV RX0 68 RX0 yX0_thingsOf wsX0_thingsOf) := goodIn_app (goodIn_of _ (by decide +kernel)) ggX0_heap_X0_thingsOf
theorem dX0_heap_0 : decode cX0_heap 0 = .ok (.aload_n 0, 1) := by decide +kernel
theorem dX0_heap_1 : decode cX0_heap 1 = .ok (.iload_n 1, 1) := by decide +kernel
theorem dX0_heap_2 : decode cX0_heap 2 = .ok (.iload_n 2, 1) := by decide +kernel
theorem dX0_heap_3 : decode cX0_heap 3 = .ok (.iload_n 3, 1) := by decide +kernel
theorem dX0_heap_4 : decode cX0_heap 4 = .ok (.invokevirtual 72, 3) := by decide +kernel
theorem dX0_heap_7 : decode cX0_heap 7 = .ok (.ifCond .ne 5, 3) := by decide +kernel
theorem dX0_heap_10 : decode cX0_heap 10 = .ok (.iconst (-1), 1) := by decide +kernel
theorem dX0_heap_11 : decode cX0_heap 11 = .ok (.ireturn, 1) := by decide +kernel
theorem dX0_heap_12 : decode cX0_heap 12 = .ok (.aload_n 0, 1) := by decide +kernel
theorem dX0_heap_13 : decode cX0_heap 13 = .ok (.getfield 29, 3) := by decide +kernel
theorem dX0_heap_16 : decode cX0_heap 16 = .ok (.bipush 10, 2) := by decide +kernel
theorem dX0_heap_18 : decode cX0_heap 18 = .ok (.if_icmp .lt 6, 3) := by decide +kernel
theorem dX0_heap_21 : decode cX0_heap 21 = .ok (.bipush (-3), 2) := by decide +kernel
theorem dX0_heap_23 : decode cX0_heap 23 = .ok (.ireturn, 1) := by decide +kernel
theorem dX0_heap_24 : decode cX0_heap 24 = .ok (.aload_n 0, 1) := by decide +kernel
theorem dX0_heap_25 : decode cX0_heap 25 = .ok (.getfield 29, 3) := by decide +kernel
theorem dX0_heap_28 : decode cX0_heap 28 = .ok (.istore 4, 2) := by decide +kernel
theorem dX0_heap_30 : decode cX0_heap 30 = .ok (.aload_n 0, 1) := by decide +kernel
theorem dX0_heap_31 : decode cX0_heap 31 = .ok (.getfield 32, 3) := by decide +kernel
theorem dX0_heap_34 : decode cX0_heap 34 = .ok (.iload 4, 2) := by decide +kernel
theorem dX0_heap_36 : decode cX0_heap 36 = .ok (.iload_n 1, 1) := by decide +kernel
theorem dX0_heap_37 : decode cX0_heap 37 = .ok (.iastore, 1) := by decide +kernel
theorem dX0_heap_38 : decode cX0_heap 38 = .ok (.aload_n 0, 1) := by decide +kernel
theorem dX0_heap_39 : decode cX0_heap 39 = .ok (.getfield 35, 3) := by decide +kernel
theorem dX0_heap_42 : decode cX0_heap 42 = .ok (.iload 4, 2) := by decide +kernel
theorem dX0_heap_44 : decode cX0_heap 44 = .ok (.iload_n 2, 1) := by decide +kernel
theorem dX0_heap_45 : decode cX0_heap 45 = .ok (.iastore, 1) := by decide +kernel
theorem dX0_heap_46 : decode cX0_heap 46 = .ok (.aload_n 0, 1) := by decide +kernel
theorem dX0_heap_47 : decode cX0_heap 47 = .ok (.getfield 38, 3) := by decide +kernel
theorem dX0_heap_50 : decode cX0_heap 50 = .ok (.iload 4, 2) := by decide +kernel
theorem dX0_heap_52 : decode cX0_heap 52 = .ok (.iload_n 3, 1) := by decide +kernel
theorem dX0_heap_53 : decode cX0_heap 53 = .ok (.iastore, 1) := by decide +kernel
theorem dX0_heap_54 : decode cX0_heap 54 = .ok (.aload_n 0, 1) := by decide +kernel
theorem dX0_heap_55 : decode cX0_heap 55 = .ok (.getfield 41, 3) := by decide +kernel
theorem dX0_heap_58 : decode cX0_heap 58 = .ok (.iload 4, 2) := by decide +kernel
theorem dX0_heap_60 : decode cX0_heap 60 = .ok (.aload_n 0, 1) := by decide +kernel
theorem dX0_heap_61 : decode cX0_heap 61 = .ok (.iload_n 1, 1) := by decide +kernel
theorem dX0_heap_62 : decode cX0_heap 62 = .ok (.iload_n 2, 1) := by decide +kernel
theorem dX0_heap_63 : decode cX0_heap 63 = .ok (.iload_n 3, 1) := by decide +kernel
theorem dX0_heap_64 : decode cX0_heap 64 = .ok (.invokevirtual 68, 3) := by decide +kernel
theorem dX0_heap_67 : decode cX0_heap 67 = .ok (.iastore, 1) := by decide +kernel
theorem dX0_heap_68 : decode cX0_heap 68 = .ok (.aload_n 0, 1) := by decide +kernel
theorem dX0_heap_69 : decode cX0_heap 69 = .ok (.dup, 1) := by decide +kernel
theorem dX0_heap_70 : decode cX0_heap 70 = .ok (.getfield 29, 3) := by decide +kernel
theorem dX0_heap_73 : decode cX0_heap 73 = .ok (.iconst 1, 1) := by decide +kernel
theorem dX0_heap_74 : decode cX0_heap 74 = .ok (.iadd, 1) := by decide +kernel
theorem dX0_heap_75 : decode cX0_heap 75 = .ok (.putfield 29, 3) := by decide +kernel
theorem dX0_heap_78 : decode cX0_heap 78 = .ok (.iload 4, 2) := by decide +kernel
theorem dX0_heap_80 : decode cX0_heap 80 = .ok (.ireturn, 1) := by decide +kernel
theorem dX0_drop_0 : decode cX0_drop 0 = .ok (.aload_n 0, 1) := by decide +kernel
theorem dX0_drop_1 : decode cX0_drop 1 = .ok (.getfield 29, 3) := by decide +kernel
theorem dX0_drop_4 : decode cX0_drop 4 = .ok (.ifCond .ne 6, 3) := by decide +kernel
theorem dX0_drop_7 : decode cX0_drop 7 = .ok (.bipush (-2), 2) := by decide +kernel
theorem dX0_drop_9 : decode cX0_drop 9 = .ok (.ireturn, 1) := by decide +kernel
theorem dX0_drop_10 : decode cX0_drop 10 = .ok (.aload_n 0, 1) := by decide +kernel
theorem dX0_drop_11 : decode cX0_drop 11 = .ok (.dup, 1) := by decide +kernel
theorem dX0_drop_12 : decode cX0_drop 12 = .ok (.getfield 29, 3) := by decide +kernel
theorem dX0_drop_15 : decode cX0_drop 15 = .ok (.iconst 1, 1) := by decide +kernel
theorem dX0_drop_16 : decode cX0_drop 16 = .ok (.isub, 1) := by decide +kernel
theorem dX0_drop_17 : decode cX0_drop 17 = .ok (.putfield 29, 3) := by decide +kernel
theorem dX0_drop_20 : decode cX0_drop 20 = .ok (.aload_n 0, 1) := by decide +kernel
theorem dX0_drop_21 : decode cX0_drop 21 = .ok (.getfield 29, 3) := by decide +kernel
theorem dX0_drop_24 : decode cX0_drop 24 = .ok (.ireturn, 1) := by decide +kernel
set_option maxRecDepth 20000 in
theorem ggX0_has_X0_isHeap : GoodIn wsX0_has wsX0_isHeap := goodIn_r _ [8, 9, 21, 22, 23, 24, 25, 26, 27, 28, 29, 30, 31, 32, 33, 34, 35] (by decide +kernel) (by decide +kernel)
set_option maxRecDepth 20000 in
theorem gX0_has_X0_isHeap : GoodIn wsX0_has (wsV RX0 76 RX0 yX0_isHeap wsX0_isHeap) := goodIn_app (goodIn_of _ (by decide +kernel)) ggX0_has_X0_isHeap
set_option maxRecDepth 20000 in
theorem ggX0_has_X0_isThing : GoodIn wsX0_has wsX0_isThing := goodIn_r _ [13, 14, 21, 22, 23, 24, 25, 26, 27, 28, 29, 30, 31, 32, 33, 34, 35] (by decide +kernel) (by decide +kernel)
set_option maxRecDepth 20000 in
theorem gX0_has_X0_isThing : GoodIn wsX0_has (wsV RX0 60 RX0 yX0_isThing wsX0_isThing) := goodIn_app (goodIn_of _ (by decide +kernel)) ggX0_has_X0_isThing
set_option maxRecDepth 20000 in
theorem ggX0_has_X0_traceOf : GoodIn wsX0_has wsX0_traceOf := goodIn_r _ [17] (by decide +kernel) (by decide +kernel)
set_option maxRecDepth 20000 in
theorem gX0_has_X0_traceOf : GoodIn wsX0_has (va_wsS RX0 79 yX0_traceOf wsX0_traceOf) := goodIn_app (goodIn_of _ (by decide +kernel)) ggX0_has_X0_traceOf
set_option maxRecDepth 20000 in
theorem ggX0_has_X0_bitOf : GoodIn wsX0_has wsX0_bitOf := goodIn_r _ [20] (by decide +kernel) (by decide +kernel)
set_option maxRecDepth 20000 in
theorem gX0_has_X0_bitOf : GoodIn wsX0_has (va_wsS RX0 83 yX0_bitOf wsX0_bitOf) := goodIn_app (goodIn_of _ (by decide +kernel)) ggX0_has_X0_bitOf
theorem dX0_has_0 : decode cX0_has 0 = .ok (.aload_n 0, 1) := by decide +kernel
theorem dX0_has_1 : decode cX0_has 1 = .ok (.iload_n 1, 1) := by decide +kernel
theorem dX0_has_2 : decode cX0_has 2 = .ok (.invokevirtual 76, 3) := by decide +kernel
theorem dX0_has_5 : decode cX0_has 5 = .ok (.ifCond .eq 11, 3) := by decide +kernel
theorem dX0_has_8 : decode cX0_has 8 = .ok (.aload_n 0, 1) := by decide +kernel
theorem dX0_has_9 : decode cX0_has 9 = .ok (.iload_n 2, 1) := by decide +kernel
theorem dX0_has_10 : decode cX0_has 10 = .ok (.invokevirtual 60, 3) := by decide +kernel
theorem dX0_has_13 : decode cX0_has 13 = .ok (.ifCond .ne 5, 3) := by decide +kernel
theorem dX0_has_16 : decode cX0_has 16 = .ok (.iconst (-1), 1) := by decide +kernel
theorem dX0_has_17 : decode cX0_has 17 = .ok (.ireturn, 1) := by decide +kernel
theorem dX0_has_18 : decode cX0_has 18 = .ok (.aload_n 0, 1) := by decide +kernel
theorem dX0_has_19 : decode cX0_has 19 = .ok (.dup, 1) := by decide +kernel
theorem dX0_has_20 : decode cX0_has 20 = .ok (.getfield 53, 3) := by decide +kernel
theorem dX0_has_23 : decode cX0_has 23 = .ok (.aload_n 0, 1) := by decide +kernel
theorem dX0_has_24 : decode cX0_has 24 = .ok (.getfield 32, 3) := by decide +kernel
theorem dX0_has_27 : decode cX0_has 27 = .ok (.iload_n 1, 1) := by decide +kernel
theorem dX0_has_28 : decode cX0_has 28 = .ok (.iaload, 1) := by decide +kernel
theorem dX0_has_29 : decode cX0_has 29 = .ok (.invokestatic 79, 3) := by decide +kernel
theorem dX0_has_32 : decode cX0_has 32 = .ok (.i2l, 1) := by decide +kernel
theorem dX0_has_33 : decode cX0_has 33 = .ok (.ladd, 1) := by decide +kernel
theorem dX0_has_34 : decode cX0_has 34 = .ok (.putfield 53, 3) := by decide +kernel
theorem dX0_has_37 : decode cX0_has 37 = .ok (.aload_n 0, 1) := by decide +kernel
theorem dX0_has_38 : decode cX0_has 38 = .ok (.getfield 41, 3) := by decide +kernel
theorem dX0_has_41 : decode cX0_has 41 = .ok (.iload_n 1, 1) := by decide +kernel
theorem dX0_has_42 : decode cX0_has 42 = .ok (.iaload, 1) := by decide +kernel
theorem dX0_has_43 : decode cX0_has 43 = .ok (.iload_n 2, 1) := by decide +kernel
theorem dX0_has_44 : decode cX0_has 44 = .ok (.invokestatic 83, 3) := by decide +kernel
theorem dX0_has_47 : decode cX0_has 47 = .ok (.ireturn, 1) := by decide +kernel
set_option maxRecDepth 20000 in
theorem ggX0_bits_X0_isHeap : GoodIn wsX0_bits wsX0_isHeap := goodIn_r _ [6, 7, 8, 9, 10, 11, 12, 13, 14, 15, 16, 17, 18, 19, 20, 21, 22] (by decide +kernel) (by decide +kernel)
set_option maxRecDepth 20000 in
theorem gX0_bits_X0_isHeap : GoodIn wsX0_bits (wsV RX0 76 RX0 yX0_isHeap wsX0_isHeap) := goodIn_app (goodIn_of _ (by decide +kernel)) ggX0_bits_X0_isHeap
theorem dX0_bits_0 : decode cX0_bits 0 = .ok (.aload_n 0, 1) := by decide +kernel
theorem dX0_bits_1 : decode cX0_bits 1 = .ok (.iload_n 1, 1) := by decide +kernel
theorem dX0_bits_2 : decode cX0_bits 2 = .ok (.invokevirtual 76, 3) := by decide +kernel
theorem dX0_bits_5 : decode cX0_bits 5 = .ok (.ifCond .eq 12, 3) := by decide +kernel
theorem dX0_bits_8 : decode cX0_bits 8 = .ok (.aload_n 0, 1) := by decide +kernel
theorem dX0_bits_9 : decode cX0_bits 9 = .ok (.getfield 41, 3) := by decide +kernel
theorem dX0_bits_12 : decode cX0_bits 12 = .ok (.iload_n 1, 1) := by decide +kernel
theorem dX0_bits_13 : decode cX0_bits 13 = .ok (.iaload, 1) := by decide +kernel
theorem dX0_bits_14 : decode cX0_bits 14 = .ok (.goto 4, 3) := by decide +kernel
theorem dX0_bits_17 : decode cX0_bits 17 = .ok (.iconst (-1), 1) := by decide +kernel
theorem dX0_bits_18 : decode cX0_bits 18 = .ok (.ireturn, 1) := by decide +kernel
set_option maxRecDepth 20000 in
theorem ggX0_hold_X0_isThing : GoodIn wsX0_hold wsX0_isThing := goodIn_r _ [7, 8, 16, 17, 18, 19, 20, 21, 22, 23, 24, 25, 26, 27, 28, 29, 30] (by decide +kernel) (by decide +kernel)
set_option maxRecDepth 20000 in
theorem gX0_hold_X0_isThing : GoodIn wsX0_hold (wsV RX0 60 RX0 yX0_isThing wsX0_isThing) := goodIn_app (goodIn_of _ (by decide +kernel)) ggX0_hold_X0_isThing
set_option maxRecDepth 20000 in
theorem ggX0_hold_X0_isHeld : GoodIn wsX0_hold wsX0_isHeld := goodIn_r _ [12, 2, 13, 14, 6, 15, 16, 17, 18, 19, 20, 21, 22, 23, 24, 25, 26, 27, 28, 29, 30] (by decide +kernel) (by decide +kernel)
set_option maxRecDepth 20000 in
theorem gX0_hold_X0_isHeld : GoodIn wsX0_hold (wsV RX0 87 RX0 yX0_isHeld wsX0_isHeld) := goodIn_app (goodIn_of _ (by decide +kernel)) ggX0_hold_X0_isHeld
set_option maxRecDepth 20000 in
theorem ggX0_hold_X0_bitOf : GoodIn wsX0_hold wsX0_bitOf := goodIn_r _ [15] (by decide +kernel) (by decide +kernel)
set_option maxRecDepth 20000 in
theorem gX0_hold_X0_bitOf : GoodIn wsX0_hold (va_wsS RX0 83 yX0_bitOf wsX0_bitOf) := goodIn_app (goodIn_of _ (by decide +kernel)) ggX0_hold_X0_bitOf
theorem dX0_hold_0 : decode cX0_hold 0 = .ok (.aload_n 0, 1) := by decide +kernel
theorem dX0_hold_1 : decode cX0_hold 1 = .ok (.iload_n 1, 1) := by decide +kernel
theorem dX0_hold_2 : decode cX0_hold 2 = .ok (.invokevirtual 60, 3) := by decide +kernel
theorem dX0_hold_5 : decode cX0_hold 5 = .ok (.ifCond .eq 13, 3) := by decide +kernel
theorem dX0_hold_8 : decode cX0_hold 8 = .ok (.iload_n 2, 1) := by decide +kernel
theorem dX0_hold_9 : decode cX0_hold 9 = .ok (.iconst (-1), 1) := by decide +kernel
theorem dX0_hold_10 : decode cX0_hold 10 = .ok (.if_icmp .lt 8, 3) := by decide +kernel
theorem dX0_hold_13 : decode cX0_hold 13 = .ok (.iload_n 2, 1) := by decide +kernel
theorem dX0_hold_14 : decode cX0_hold 14 = .ok (.iconst 1, 1) := by decide +kernel
theorem dX0_hold_15 : decode cX0_hold 15 = .ok (.if_icmp .le 6, 3) := by decide +kernel
theorem dX0_hold_18 : decode cX0_hold 18 = .ok (.bipush (-2), 2) := by decide +kernel
theorem dX0_hold_20 : decode cX0_hold 20 = .ok (.ireturn, 1) := by decide +kernel
theorem dX0_hold_21 : decode cX0_hold 21 = .ok (.aload_n 0, 1) := by decide +kernel
theorem dX0_hold_22 : decode cX0_hold 22 = .ok (.iload_n 1, 1) := by decide +kernel
theorem dX0_hold_23 : decode cX0_hold 23 = .ok (.invokevirtual 87, 3) := by decide +kernel
theorem dX0_hold_26 : decode cX0_hold 26 = .ok (.ifCond .eq 14, 3) := by decide +kernel
theorem dX0_hold_29 : decode cX0_hold 29 = .ok (.aload_n 0, 1) := by decide +kernel
theorem dX0_hold_30 : decode cX0_hold 30 = .ok (.getfield 23, 3) := by decide +kernel
theorem dX0_hold_33 : decode cX0_hold 33 = .ok (.iload_n 1, 1) := by decide +kernel
theorem dX0_hold_34 : decode cX0_hold 34 = .ok (.invokestatic 83, 3) := by decide +kernel
theorem dX0_hold_37 : decode cX0_hold 37 = .ok (.goto 4, 3) := by decide +kernel
theorem dX0_hold_40 : decode cX0_hold 40 = .ok (.iconst (-1), 1) := by decide +kernel
theorem dX0_hold_41 : decode cX0_hold 41 = .ok (.istore_n 3, 1) := by decide +kernel
theorem dX0_hold_42 : decode cX0_hold 42 = .ok (.iconst 1, 1) := by decide +kernel
theorem dX0_hold_43 : decode cX0_hold 43 = .ok (.iload_n 1, 1) := by decide +kernel
theorem dX0_hold_44 : decode cX0_hold 44 = .ok (.ishl, 1) := by decide +kernel
theorem dX0_hold_45 : decode cX0_hold 45 = .ok (.istore 4, 2) := by decide +kernel
theorem dX0_hold_47 : decode cX0_hold 47 = .ok (.aload_n 0, 1) := by decide +kernel
theorem dX0_hold_48 : decode cX0_hold 48 = .ok (.iload_n 2, 1) := by decide +kernel
theorem dX0_hold_49 : decode cX0_hold 49 = .ok (.iconst (-1), 1) := by decide +kernel
theorem dX0_hold_50 : decode cX0_hold 50 = .ok (.if_icmp .ne 15, 3) := by decide +kernel
theorem dX0_hold_53 : decode cX0_hold 53 = .ok (.aload_n 0, 1) := by decide +kernel
theorem dX0_hold_54 : decode cX0_hold 54 = .ok (.getfield 20, 3) := by decide +kernel
theorem dX0_hold_57 : decode cX0_hold 57 = .ok (.iload 4, 2) := by decide +kernel
theorem dX0_hold_59 : decode cX0_hold 59 = .ok (.iconst (-1), 1) := by decide +kernel
theorem dX0_hold_60 : decode cX0_hold 60 = .ok (.ixor, 1) := by decide +kernel
theorem dX0_hold_61 : decode cX0_hold 61 = .ok (.iand, 1) := by decide +kernel
theorem dX0_hold_62 : decode cX0_hold 62 = .ok (.goto 10, 3) := by decide +kernel
theorem dX0_hold_65 : decode cX0_hold 65 = .ok (.aload_n 0, 1) := by decide +kernel
theorem dX0_hold_66 : decode cX0_hold 66 = .ok (.getfield 20, 3) := by decide +kernel
theorem dX0_hold_69 : decode cX0_hold 69 = .ok (.iload 4, 2) := by decide +kernel
theorem dX0_hold_71 : decode cX0_hold 71 = .ok (.ior, 1) := by decide +kernel
theorem dX0_hold_72 : decode cX0_hold 72 = .ok (.putfield 20, 3) := by decide +kernel
theorem dX0_hold_75 : decode cX0_hold 75 = .ok (.aload_n 0, 1) := by decide +kernel
theorem dX0_hold_76 : decode cX0_hold 76 = .ok (.iload_n 2, 1) := by decide +kernel
theorem dX0_hold_77 : decode cX0_hold 77 = .ok (.iconst 1, 1) := by decide +kernel
theorem dX0_hold_78 : decode cX0_hold 78 = .ok (.if_icmp .ne 13, 3) := by decide +kernel
theorem dX0_hold_81 : decode cX0_hold 81 = .ok (.aload_n 0, 1) := by decide +kernel
theorem dX0_hold_82 : decode cX0_hold 82 = .ok (.getfield 23, 3) := by decide +kernel
theorem dX0_hold_85 : decode cX0_hold 85 = .ok (.iload 4, 2) := by decide +kernel
theorem dX0_hold_87 : decode cX0_hold 87 = .ok (.ior, 1) := by decide +kernel
theorem dX0_hold_88 : decode cX0_hold 88 = .ok (.goto 12, 3) := by decide +kernel
theorem dX0_hold_91 : decode cX0_hold 91 = .ok (.aload_n 0, 1) := by decide +kernel
theorem dX0_hold_92 : decode cX0_hold 92 = .ok (.getfield 23, 3) := by decide +kernel
theorem dX0_hold_95 : decode cX0_hold 95 = .ok (.iload 4, 2) := by decide +kernel
theorem dX0_hold_97 : decode cX0_hold 97 = .ok (.iconst (-1), 1) := by decide +kernel
theorem dX0_hold_98 : decode cX0_hold 98 = .ok (.ixor, 1) := by decide +kernel
theorem dX0_hold_99 : decode cX0_hold 99 = .ok (.iand, 1) := by decide +kernel
theorem dX0_hold_100 : decode cX0_hold 100 = .ok (.putfield 23, 3) := by decide +kernel
theorem dX0_hold_103 : decode cX0_hold 103 = .ok (.iload_n 3, 1) := by decide +kernel
theorem dX0_hold_104 : decode cX0_hold 104 = .ok (.ireturn, 1) := by decide +kernel
set_option maxRecDepth 20000 in
theorem ggX0_orderByNumbers_X0_putAt : GoodIn wsX0_orderByNumbers wsX0_putAt := goodIn_r _ [5, 6, 7, 8, 9, 10, 11, 12, 13, 14, 15, 16, 17, 18, 19, 20, 21, 22] (by decide +kernel) (by decide +kernel)
set_option maxRecDepth 20000 in
theorem gX0_orderByNumbers_X0_putAt : GoodIn wsX0_orderByNumbers (wsV RX0 64 RX0 yX0_putAt wsX0_putAt) := goodIn_app (goodIn_of _ (by decide +kernel)) ggX0_orderByNumbers_X0_putAt
theorem dX0_orderByNumbers_0 : decode cX0_orderByNumbers 0 = .ok (.iconst 0, 1) := by decide +kernel
theorem dX0_orderByNumbers_1 : decode cX0_orderByNumbers 1 = .ok (.istore_n 1, 1) := by decide +kernel
theorem dX0_orderByNumbers_2 : decode cX0_orderByNumbers 2 = .ok (.iload_n 1, 1) := by decide +kernel
theorem dX0_orderByNumbers_3 : decode cX0_orderByNumbers 3 = .ok (.bipush 12, 2) := by decide +kernel
theorem dX0_orderByNumbers_5 : decode cX0_orderByNumbers 5 = .ok (.if_icmp .ge 15, 3) := by decide +kernel
theorem dX0_orderByNumbers_8 : decode cX0_orderByNumbers 8 = .ok (.aload_n 0, 1) := by decide +kernel
theorem dX0_orderByNumbers_9 : decode cX0_orderByNumbers 9 = .ok (.iload_n 1, 1) := by decide +kernel
theorem dX0_orderByNumbers_10 : decode cX0_orderByNumbers 10 = .ok (.iload_n 1, 1) := by decide +kernel
theorem dX0_orderByNumbers_11 : decode cX0_orderByNumbers 11 = .ok (.invokevirtual 64, 3) := by decide +kernel
theorem dX0_orderByNumbers_14 : decode cX0_orderByNumbers 14 = .ok (.iinc 1 1, 3) := by decide +kernel
theorem dX0_orderByNumbers_17 : decode cX0_orderByNumbers 17 = .ok (.goto (-15), 3) := by decide +kernel
theorem dX0_orderByNumbers_20 : decode cX0_orderByNumbers 20 = .ok (.return_, 1) := by decide +kernel
theorem dX0_putAt_0 : decode cX0_putAt 0 = .ok (.aload_n 0, 1) := by decide +kernel
theorem dX0_putAt_1 : decode cX0_putAt 1 = .ok (.getfield 13, 3) := by decide +kernel
theorem dX0_putAt_4 : decode cX0_putAt 4 = .ok (.iload_n 1, 1) := by decide +kernel
theorem dX0_putAt_5 : decode cX0_putAt 5 = .ok (.iload_n 2, 1) := by decide +kernel
theorem dX0_putAt_6 : decode cX0_putAt 6 = .ok (.iastore, 1) := by decide +kernel
theorem dX0_putAt_7 : decode cX0_putAt 7 = .ok (.aload_n 0, 1) := by decide +kernel
theorem dX0_putAt_8 : decode cX0_putAt 8 = .ok (.getfield 17, 3) := by decide +kernel
theorem dX0_putAt_11 : decode cX0_putAt 11 = .ok (.iload_n 2, 1) := by decide +kernel
theorem dX0_putAt_12 : decode cX0_putAt 12 = .ok (.iload_n 1, 1) := by decide +kernel
theorem dX0_putAt_13 : decode cX0_putAt 13 = .ok (.iastore, 1) := by decide +kernel
theorem dX0_putAt_14 : decode cX0_putAt 14 = .ok (.return_, 1) := by decide +kernel
theorem dX0_isThing_0 : decode cX0_isThing 0 = .ok (.iload_n 1, 1) := by decide +kernel
theorem dX0_isThing_1 : decode cX0_isThing 1 = .ok (.ifCond .lt 15, 3) := by decide +kernel
theorem dX0_isThing_4 : decode cX0_isThing 4 = .ok (.iload_n 1, 1) := by decide +kernel
theorem dX0_isThing_5 : decode cX0_isThing 5 = .ok (.aload_n 0, 1) := by decide +kernel
theorem dX0_isThing_6 : decode cX0_isThing 6 = .ok (.getfield 7, 3) := by decide +kernel
theorem dX0_isThing_9 : decode cX0_isThing 9 = .ok (.if_icmp .ge 7, 3) := by decide +kernel
theorem dX0_isThing_12 : decode cX0_isThing 12 = .ok (.iconst 1, 1) := by decide +kernel
theorem dX0_isThing_13 : decode cX0_isThing 13 = .ok (.goto 4, 3) := by decide +kernel
theorem dX0_isThing_16 : decode cX0_isThing 16 = .ok (.iconst 0, 1) := by decide +kernel
theorem dX0_isThing_17 : decode cX0_isThing 17 = .ok (.ireturn, 1) := by decide +kernel
theorem dX0_isHeap_0 : decode cX0_isHeap 0 = .ok (.iload_n 1, 1) := by decide +kernel
theorem dX0_isHeap_1 : decode cX0_isHeap 1 = .ok (.ifCond .lt 15, 3) := by decide +kernel
theorem dX0_isHeap_4 : decode cX0_isHeap 4 = .ok (.iload_n 1, 1) := by decide +kernel
theorem dX0_isHeap_5 : decode cX0_isHeap 5 = .ok (.aload_n 0, 1) := by decide +kernel
theorem dX0_isHeap_6 : decode cX0_isHeap 6 = .ok (.getfield 29, 3) := by decide +kernel
theorem dX0_isHeap_9 : decode cX0_isHeap 9 = .ok (.if_icmp .ge 7, 3) := by decide +kernel
theorem dX0_isHeap_12 : decode cX0_isHeap 12 = .ok (.iconst 1, 1) := by decide +kernel
theorem dX0_isHeap_13 : decode cX0_isHeap 13 = .ok (.goto 4, 3) := by decide +kernel
theorem dX0_isHeap_16 : decode cX0_isHeap 16 = .ok (.iconst 0, 1) := by decide +kernel
theorem dX0_isHeap_17 : decode cX0_isHeap 17 = .ok (.ireturn, 1) := by decide +kernel
set_option maxRecDepth 20000 in
theorem ggX0_isHeld_X0_bitOf : GoodIn wsX0_isHeld wsX0_bitOf := goodIn_r _ [5] (by decide +kernel) (by decide +kernel)
set_option maxRecDepth 20000 in
theorem gX0_isHeld_X0_bitOf : GoodIn wsX0_isHeld (va_wsS RX0 83 yX0_bitOf wsX0_bitOf) := goodIn_app (goodIn_of _ (by decide +kernel)) ggX0_isHeld_X0_bitOf
theorem dX0_isHeld_0 : decode cX0_isHeld 0 = .ok (.aload_n 0, 1) := by decide +kernel
theorem dX0_isHeld_1 : decode cX0_isHeld 1 = .ok (.getfield 20, 3) := by decide +kernel
theorem dX0_isHeld_4 : decode cX0_isHeld 4 = .ok (.iload_n 1, 1) := by decide +kernel
theorem dX0_isHeld_5 : decode cX0_isHeld 5 = .ok (.invokestatic 83, 3) := by decide +kernel
theorem dX0_isHeld_8 : decode cX0_isHeld 8 = .ok (.iconst 1, 1) := by decide +kernel
theorem dX0_isHeld_9 : decode cX0_isHeld 9 = .ok (.if_icmp .ne 7, 3) := by decide +kernel
theorem dX0_isHeld_12 : decode cX0_isHeld 12 = .ok (.iconst 1, 1) := by decide +kernel
theorem dX0_isHeld_13 : decode cX0_isHeld 13 = .ok (.goto 4, 3) := by decide +kernel
theorem dX0_isHeld_16 : decode cX0_isHeld 16 = .ok (.iconst 0, 1) := by decide +kernel
theorem dX0_isHeld_17 : decode cX0_isHeld 17 = .ok (.ireturn, 1) := by decide +kernel
set_option maxRecDepth 20000 in
theorem ggX0_canBeHeap_X0_isColouring : GoodIn wsX0_canBeHeap wsX0_isColouring := goodIn_r _ [5, 6, 7, 8, 4, 9, 10, 15, 16, 17, 18, 19, 20, 21, 22, 23, 24, 25, 26, 27, 28, 29] (by decide +kernel) (by decide +kernel)
set_option maxRecDepth 20000 in
theorem gX0_canBeHeap_X0_isColouring : GoodIn wsX0_canBeHeap (wsV RX0 90 RX0 yX0_isColouring wsX0_isColouring) := goodIn_app (goodIn_of _ (by decide +kernel)) ggX0_canBeHeap_X0_isColouring
set_option maxRecDepth 20000 in
theorem ggX0_canBeHeap_X0_isThing : GoodIn wsX0_canBeHeap wsX0_isThing := goodIn_r _ [14, 10, 15, 16, 17, 18, 19, 20, 21, 22, 23, 24, 25, 26, 27, 28, 29] (by decide +kernel) (by decide +kernel)
set_option maxRecDepth 20000 in
theorem gX0_canBeHeap_X0_isThing : GoodIn wsX0_canBeHeap (wsV RX0 60 RX0 yX0_isThing wsX0_isThing) := goodIn_app (goodIn_of _ (by decide +kernel)) ggX0_canBeHeap_X0_isThing
theorem dX0_canBeHeap_0 : decode cX0_canBeHeap 0 = .ok (.iload_n 1, 1) := by decide +kernel
theorem dX0_canBeHeap_1 : decode cX0_canBeHeap 1 = .ok (.tableswitch 89 0 3 #[31, 37, 37, 64], 31) := by decide +kernel
theorem dX0_canBeHeap_32 : decode cX0_canBeHeap 32 = .ok (.aload_n 0, 1) := by decide +kernel
theorem dX0_canBeHeap_33 : decode cX0_canBeHeap 33 = .ok (.iload_n 2, 1) := by decide +kernel
theorem dX0_canBeHeap_34 : decode cX0_canBeHeap 34 = .ok (.invokevirtual 90, 3) := by decide +kernel
theorem dX0_canBeHeap_37 : decode cX0_canBeHeap 37 = .ok (.ireturn, 1) := by decide +kernel
theorem dX0_canBeHeap_38 : decode cX0_canBeHeap 38 = .ok (.aload_n 0, 1) := by decide +kernel
theorem dX0_canBeHeap_39 : decode cX0_canBeHeap 39 = .ok (.iload_n 2, 1) := by decide +kernel
theorem dX0_canBeHeap_40 : decode cX0_canBeHeap 40 = .ok (.invokevirtual 60, 3) := by decide +kernel
theorem dX0_canBeHeap_43 : decode cX0_canBeHeap 43 = .ok (.ifCond .eq 20, 3) := by decide +kernel
theorem dX0_canBeHeap_46 : decode cX0_canBeHeap 46 = .ok (.aload_n 0, 1) := by decide +kernel
theorem dX0_canBeHeap_47 : decode cX0_canBeHeap 47 = .ok (.iload_n 3, 1) := by decide +kernel
theorem dX0_canBeHeap_48 : decode cX0_canBeHeap 48 = .ok (.invokevirtual 60, 3) := by decide +kernel
theorem dX0_canBeHeap_51 : decode cX0_canBeHeap 51 = .ok (.ifCond .eq 12, 3) := by decide +kernel
theorem dX0_canBeHeap_54 : decode cX0_canBeHeap 54 = .ok (.iload_n 2, 1) := by decide +kernel
theorem dX0_canBeHeap_55 : decode cX0_canBeHeap 55 = .ok (.iload_n 3, 1) := by decide +kernel
theorem dX0_canBeHeap_56 : decode cX0_canBeHeap 56 = .ok (.if_icmp .gt 7, 3) := by decide +kernel
theorem dX0_canBeHeap_59 : decode cX0_canBeHeap 59 = .ok (.iconst 1, 1) := by decide +kernel
theorem dX0_canBeHeap_60 : decode cX0_canBeHeap 60 = .ok (.goto 4, 3) := by decide +kernel
theorem dX0_canBeHeap_63 : decode cX0_canBeHeap 63 = .ok (.iconst 0, 1) := by decide +kernel
theorem dX0_canBeHeap_64 : decode cX0_canBeHeap 64 = .ok (.ireturn, 1) := by decide +kernel
theorem dX0_canBeHeap_65 : decode cX0_canBeHeap 65 = .ok (.aload_n 0, 1) := by decide +kernel
theorem dX0_canBeHeap_66 : decode cX0_canBeHeap 66 = .ok (.iload_n 2, 1) := by decide +kernel
theorem dX0_canBeHeap_67 : decode cX0_canBeHeap 67 = .ok (.invokevirtual 60, 3) := by decide +kernel
theorem dX0_canBeHeap_70 : decode cX0_canBeHeap 70 = .ok (.ifCond .eq 18, 3) := by decide +kernel
theorem dX0_canBeHeap_73 : decode cX0_canBeHeap 73 = .ok (.iload_n 3, 1) := by decide +kernel
theorem dX0_canBeHeap_74 : decode cX0_canBeHeap 74 = .ok (.iconst 1, 1) := by decide +kernel
theorem dX0_canBeHeap_75 : decode cX0_canBeHeap 75 = .ok (.if_icmp .lt 13, 3) := by decide +kernel
theorem dX0_canBeHeap_78 : decode cX0_canBeHeap 78 = .ok (.iload_n 3, 1) := by decide +kernel
theorem dX0_canBeHeap_79 : decode cX0_canBeHeap 79 = .ok (.bipush 12, 2) := by decide +kernel
theorem dX0_canBeHeap_81 : decode cX0_canBeHeap 81 = .ok (.if_icmp .gt 7, 3) := by decide +kernel
theorem dX0_canBeHeap_84 : decode cX0_canBeHeap 84 = .ok (.iconst 1, 1) := by decide +kernel
theorem dX0_canBeHeap_85 : decode cX0_canBeHeap 85 = .ok (.goto 4, 3) := by decide +kernel
theorem dX0_canBeHeap_88 : decode cX0_canBeHeap 88 = .ok (.iconst 0, 1) := by decide +kernel
theorem dX0_canBeHeap_89 : decode cX0_canBeHeap 89 = .ok (.ireturn, 1) := by decide +kernel
theorem dX0_canBeHeap_90 : decode cX0_canBeHeap 90 = .ok (.iconst 0, 1) := by decide +kernel
theorem dX0_canBeHeap_91 : decode cX0_canBeHeap 91 = .ok (.ireturn, 1) := by decide +kernel
set_option maxRecDepth 20000 in
theorem ggX0_thingsOf_X0_belongs : GoodIn wsX0_thingsOf wsX0_belongs := goodIn_r _ [6, 7, 8, 9, 5, 10, 11, 12, 13, 14, 15, 16, 17, 18, 19, 20, 21, 22, 23, 24, 25, 26, 27, 28] (by decide +kernel) (by decide +kernel)
set_option maxRecDepth 20000 in
theorem gX0_thingsOf_X0_belongs : GoodIn wsX0_thingsOf (wsV RX0 93 RX0 yX0_belongs wsX0_belongs) := goodIn_app (goodIn_of _ (by decide +kernel)) ggX0_thingsOf_X0_belongs
theorem dX0_thingsOf_0 : decode cX0_thingsOf 0 = .ok (.iconst 0, 1) := by decide +kernel
theorem dX0_thingsOf_1 : decode cX0_thingsOf 1 = .ok (.istore 4, 2) := by decide +kernel
theorem dX0_thingsOf_3 : decode cX0_thingsOf 3 = .ok (.iconst 0, 1) := by decide +kernel
theorem dX0_thingsOf_4 : decode cX0_thingsOf 4 = .ok (.istore 5, 2) := by decide +kernel
theorem dX0_thingsOf_6 : decode cX0_thingsOf 6 = .ok (.iload 5, 2) := by decide +kernel
theorem dX0_thingsOf_8 : decode cX0_thingsOf 8 = .ok (.aload_n 0, 1) := by decide +kernel
theorem dX0_thingsOf_9 : decode cX0_thingsOf 9 = .ok (.getfield 7, 3) := by decide +kernel
theorem dX0_thingsOf_12 : decode cX0_thingsOf 12 = .ok (.if_icmp .ge 30, 3) := by decide +kernel
theorem dX0_thingsOf_15 : decode cX0_thingsOf 15 = .ok (.aload_n 0, 1) := by decide +kernel
theorem dX0_thingsOf_16 : decode cX0_thingsOf 16 = .ok (.iload 5, 2) := by decide +kernel
theorem dX0_thingsOf_18 : decode cX0_thingsOf 18 = .ok (.iload_n 1, 1) := by decide +kernel
theorem dX0_thingsOf_19 : decode cX0_thingsOf 19 = .ok (.iload_n 2, 1) := by decide +kernel
theorem dX0_thingsOf_20 : decode cX0_thingsOf 20 = .ok (.iload_n 3, 1) := by decide +kernel
theorem dX0_thingsOf_21 : decode cX0_thingsOf 21 = .ok (.invokevirtual 93, 3) := by decide +kernel
theorem dX0_thingsOf_24 : decode cX0_thingsOf 24 = .ok (.ifCond .eq 12, 3) := by decide +kernel
theorem dX0_thingsOf_27 : decode cX0_thingsOf 27 = .ok (.iload 4, 2) := by decide +kernel
theorem dX0_thingsOf_29 : decode cX0_thingsOf 29 = .ok (.iconst 1, 1) := by decide +kernel
theorem dX0_thingsOf_30 : decode cX0_thingsOf 30 = .ok (.iload 5, 2) := by decide +kernel
theorem dX0_thingsOf_32 : decode cX0_thingsOf 32 = .ok (.ishl, 1) := by decide +kernel
theorem dX0_thingsOf_33 : decode cX0_thingsOf 33 = .ok (.ior, 1) := by decide +kernel
theorem dX0_thingsOf_34 : decode cX0_thingsOf 34 = .ok (.istore 4, 2) := by decide +kernel
theorem dX0_thingsOf_36 : decode cX0_thingsOf 36 = .ok (.iinc 5 1, 3) := by decide +kernel
theorem dX0_thingsOf_39 : decode cX0_thingsOf 39 = .ok (.goto (-33), 3) := by decide +kernel
theorem dX0_thingsOf_42 : decode cX0_thingsOf 42 = .ok (.iload 4, 2) := by decide +kernel
theorem dX0_thingsOf_44 : decode cX0_thingsOf 44 = .ok (.ireturn, 1) := by decide +kernel
set_option maxRecDepth 20000 in
theorem ggX0_belongs_X0_isWithin : GoodIn wsX0_belongs wsX0_isWithin := goodIn_r _ [5] (by decide +kernel) (by decide +kernel)
set_option maxRecDepth 20000 in
theorem gX0_belongs_X0_isWithin : GoodIn wsX0_belongs (va_wsS RX0 97 yX0_isWithin wsX0_isWithin) := goodIn_app (goodIn_of _ (by decide +kernel)) ggX0_belongs_X0_isWithin
set_option maxRecDepth 20000 in
theorem ggX0_belongs_X0_bitOf : GoodIn wsX0_belongs wsX0_bitOf := goodIn_r _ [8] (by decide +kernel) (by decide +kernel)
set_option maxRecDepth 20000 in
theorem gX0_belongs_X0_bitOf : GoodIn wsX0_belongs (va_wsS RX0 83 yX0_bitOf wsX0_bitOf) := goodIn_app (goodIn_of _ (by decide +kernel)) ggX0_belongs_X0_bitOf
theorem dX0_belongs_0 : decode cX0_belongs 0 = .ok (.iload_n 2, 1) := by decide +kernel
theorem dX0_belongs_1 : decode cX0_belongs 1 = .ok (.tableswitch 73 1 3 #[27, 35, 48], 27) := by decide +kernel
theorem dX0_belongs_28 : decode cX0_belongs 28 = .ok (.iload_n 1, 1) := by decide +kernel
theorem dX0_belongs_29 : decode cX0_belongs 29 = .ok (.iload_n 3, 1) := by decide +kernel
theorem dX0_belongs_30 : decode cX0_belongs 30 = .ok (.iload 4, 2) := by decide +kernel
theorem dX0_belongs_32 : decode cX0_belongs 32 = .ok (.invokestatic 97, 3) := by decide +kernel
theorem dX0_belongs_35 : decode cX0_belongs 35 = .ok (.ireturn, 1) := by decide +kernel
theorem dX0_belongs_36 : decode cX0_belongs 36 = .ok (.aload_n 0, 1) := by decide +kernel
theorem dX0_belongs_37 : decode cX0_belongs 37 = .ok (.getfield 17, 3) := by decide +kernel
theorem dX0_belongs_40 : decode cX0_belongs 40 = .ok (.iload_n 1, 1) := by decide +kernel
theorem dX0_belongs_41 : decode cX0_belongs 41 = .ok (.iaload, 1) := by decide +kernel
theorem dX0_belongs_42 : decode cX0_belongs 42 = .ok (.iload_n 3, 1) := by decide +kernel
theorem dX0_belongs_43 : decode cX0_belongs 43 = .ok (.iload 4, 2) := by decide +kernel
theorem dX0_belongs_45 : decode cX0_belongs 45 = .ok (.invokestatic 97, 3) := by decide +kernel
theorem dX0_belongs_48 : decode cX0_belongs 48 = .ok (.ireturn, 1) := by decide +kernel
theorem dX0_belongs_49 : decode cX0_belongs 49 = .ok (.iload_n 1, 1) := by decide +kernel
theorem dX0_belongs_50 : decode cX0_belongs 50 = .ok (.iload_n 3, 1) := by decide +kernel
theorem dX0_belongs_51 : decode cX0_belongs 51 = .ok (.if_icmp .lt 21, 3) := by decide +kernel
theorem dX0_belongs_54 : decode cX0_belongs 54 = .ok (.iload 4, 2) := by decide +kernel
theorem dX0_belongs_56 : decode cX0_belongs 56 = .ok (.ifCond .le 16, 3) := by decide +kernel
theorem dX0_belongs_59 : decode cX0_belongs 59 = .ok (.iload_n 1, 1) := by decide +kernel
theorem dX0_belongs_60 : decode cX0_belongs 60 = .ok (.iload_n 3, 1) := by decide +kernel
theorem dX0_belongs_61 : decode cX0_belongs 61 = .ok (.isub, 1) := by decide +kernel
theorem dX0_belongs_62 : decode cX0_belongs 62 = .ok (.iload 4, 2) := by decide +kernel
theorem dX0_belongs_64 : decode cX0_belongs 64 = .ok (.irem, 1) := by decide +kernel
theorem dX0_belongs_65 : decode cX0_belongs 65 = .ok (.ifCond .ne 7, 3) := by decide +kernel
theorem dX0_belongs_68 : decode cX0_belongs 68 = .ok (.iconst 1, 1) := by decide +kernel
theorem dX0_belongs_69 : decode cX0_belongs 69 = .ok (.goto 4, 3) := by decide +kernel
theorem dX0_belongs_72 : decode cX0_belongs 72 = .ok (.iconst 0, 1) := by decide +kernel
theorem dX0_belongs_73 : decode cX0_belongs 73 = .ok (.ireturn, 1) := by decide +kernel
theorem dX0_belongs_74 : decode cX0_belongs 74 = .ok (.iload_n 3, 1) := by decide +kernel
theorem dX0_belongs_75 : decode cX0_belongs 75 = .ok (.iload_n 1, 1) := by decide +kernel
theorem dX0_belongs_76 : decode cX0_belongs 76 = .ok (.invokestatic 83, 3) := by decide +kernel
theorem dX0_belongs_79 : decode cX0_belongs 79 = .ok (.iconst 1, 1) := by decide +kernel
theorem dX0_belongs_80 : decode cX0_belongs 80 = .ok (.if_icmp .ne 7, 3) := by decide +kernel
theorem dX0_belongs_83 : decode cX0_belongs 83 = .ok (.iconst 1, 1) := by decide +kernel
theorem dX0_belongs_84 : decode cX0_belongs 84 = .ok (.goto 4, 3) := by decide +kernel
theorem dX0_belongs_87 : decode cX0_belongs 87 = .ok (.iconst 0, 1) := by decide +kernel
theorem dX0_belongs_88 : decode cX0_belongs 88 = .ok (.ireturn, 1) := by decide +kernel
theorem dX0_isWithin_0 : decode cX0_isWithin 0 = .ok (.iload_n 0, 1) := by decide +kernel
theorem dX0_isWithin_1 : decode cX0_isWithin 1 = .ok (.iload_n 1, 1) := by decide +kernel
theorem dX0_isWithin_2 : decode cX0_isWithin 2 = .ok (.if_icmp .lt 12, 3) := by decide +kernel
theorem dX0_isWithin_5 : decode cX0_isWithin 5 = .ok (.iload_n 0, 1) := by decide +kernel
theorem dX0_isWithin_6 : decode cX0_isWithin 6 = .ok (.iload_n 2, 1) := by decide +kernel
theorem dX0_isWithin_7 : decode cX0_isWithin 7 = .ok (.if_icmp .gt 7, 3) := by decide +kernel
theorem dX0_isWithin_10 : decode cX0_isWithin 10 = .ok (.iconst 1, 1) := by decide +kernel
theorem dX0_isWithin_11 : decode cX0_isWithin 11 = .ok (.goto 4, 3) := by decide +kernel
theorem dX0_isWithin_14 : decode cX0_isWithin 14 = .ok (.iconst 0, 1) := by decide +kernel
theorem dX0_isWithin_15 : decode cX0_isWithin 15 = .ok (.ireturn, 1) := by decide +kernel
theorem dX0_traceOf_0 : decode cX0_traceOf 0 = .ok (.iload_n 0, 1) := by decide +kernel
theorem dX0_traceOf_1 : decode cX0_traceOf 1 = .ok (.tableswitch 37 1 3 #[27, 30, 33], 27) := by decide +kernel
theorem dX0_traceOf_28 : decode cX0_traceOf 28 = .ok (.bipush 10, 2) := by decide +kernel
theorem dX0_traceOf_30 : decode cX0_traceOf 30 = .ok (.ireturn, 1) := by decide +kernel
theorem dX0_traceOf_31 : decode cX0_traceOf 31 = .ok (.bipush 110, 2) := by decide +kernel
theorem dX0_traceOf_33 : decode cX0_traceOf 33 = .ok (.ireturn, 1) := by decide +kernel
theorem dX0_traceOf_34 : decode cX0_traceOf 34 = .ok (.sipush 1000, 3) := by decide +kernel
theorem dX0_traceOf_37 : decode cX0_traceOf 37 = .ok (.ireturn, 1) := by decide +kernel
theorem dX0_traceOf_38 : decode cX0_traceOf 38 = .ok (.iconst 1, 1) := by decide +kernel
theorem dX0_traceOf_39 : decode cX0_traceOf 39 = .ok (.ireturn, 1) := by decide +kernel
theorem dX0_bitOf_0 : decode cX0_bitOf 0 = .ok (.iload_n 0, 1) := by decide +kernel
theorem dX0_bitOf_1 : decode cX0_bitOf 1 = .ok (.iload_n 1, 1) := by decide +kernel
theorem dX0_bitOf_2 : decode cX0_bitOf 2 = .ok (.ishr, 1) := by decide +kernel
theorem dX0_bitOf_3 : decode cX0_bitOf 3 = .ok (.iconst 1, 1) := by decide +kernel
theorem dX0_bitOf_4 : decode cX0_bitOf 4 = .ok (.iand, 1) := by decide +kernel
theorem dX0_bitOf_5 : decode cX0_bitOf 5 = .ok (.ireturn, 1) := by decide +kernel
set_option maxRecDepth 20000 in
theorem ggX0_off_X0_isColouring : GoodIn wsX0_off wsX0_isColouring := goodIn_r _ [5, 6, 7, 8, 4, 9, 10, 35, 36, 37, 38, 39, 40, 41, 42, 43, 44, 45, 46, 47, 48, 49] (by decide +kernel) (by decide +kernel)
set_option maxRecDepth 20000 in
theorem gX0_off_X0_isColouring : GoodIn wsX0_off (wsV RX0 90 RX0 yX0_isColouring wsX0_isColouring) := goodIn_app (goodIn_of _ (by decide +kernel)) ggX0_off_X0_isColouring
set_option maxRecDepth 20000 in
theorem ggX0_off_X0_isHeap : GoodIn wsX0_off wsX0_isHeap := goodIn_r _ [14, 15, 35, 36, 37, 38, 39, 40, 41, 42, 43, 44, 45, 46, 47, 48, 49] (by decide +kernel) (by decide +kernel)
set_option maxRecDepth 20000 in
theorem gX0_off_X0_isHeap : GoodIn wsX0_off (wsV RX0 76 RX0 yX0_isHeap wsX0_isHeap) := goodIn_app (goodIn_of _ (by decide +kernel)) ggX0_off_X0_isHeap
set_option maxRecDepth 20000 in
theorem ggX0_off_X0_offOf : GoodIn wsX0_off wsX0_offOf := goodIn_r _ [19, 20, 21, 22, 23, 24, 25, 26, 4, 27, 28, 29, 30, 31, 32, 33, 34, 35, 36, 37, 38, 39, 40, 41, 42, 43, 44, 45, 46, 47, 48, 49] (by decide +kernel) (by decide +kernel)
set_option maxRecDepth 20000 in
theorem gX0_off_X0_offOf : GoodIn wsX0_off (wsV RX0 100 RX0 yX0_offOf wsX0_offOf) := goodIn_app (goodIn_of _ (by decide +kernel)) ggX0_off_X0_offOf
theorem dX0_off_0 : decode cX0_off 0 = .ok (.aload_n 0, 1) := by decide +kernel
theorem dX0_off_1 : decode cX0_off 1 = .ok (.iload_n 1, 1) := by decide +kernel
theorem dX0_off_2 : decode cX0_off 2 = .ok (.invokevirtual 90, 3) := by decide +kernel
theorem dX0_off_5 : decode cX0_off 5 = .ok (.ifCond .eq 20, 3) := by decide +kernel
theorem dX0_off_8 : decode cX0_off 8 = .ok (.aload_n 0, 1) := by decide +kernel
theorem dX0_off_9 : decode cX0_off 9 = .ok (.iload_n 2, 1) := by decide +kernel
theorem dX0_off_10 : decode cX0_off 10 = .ok (.invokevirtual 76, 3) := by decide +kernel
theorem dX0_off_13 : decode cX0_off 13 = .ok (.ifCond .eq 12, 3) := by decide +kernel
theorem dX0_off_16 : decode cX0_off 16 = .ok (.aload_n 0, 1) := by decide +kernel
theorem dX0_off_17 : decode cX0_off 17 = .ok (.iload_n 1, 1) := by decide +kernel
theorem dX0_off_18 : decode cX0_off 18 = .ok (.iload_n 2, 1) := by decide +kernel
theorem dX0_off_19 : decode cX0_off 19 = .ok (.invokevirtual 100, 3) := by decide +kernel
theorem dX0_off_22 : decode cX0_off 22 = .ok (.goto 4, 3) := by decide +kernel
theorem dX0_off_25 : decode cX0_off 25 = .ok (.iconst (-1), 1) := by decide +kernel
theorem dX0_off_26 : decode cX0_off 26 = .ok (.ireturn, 1) := by decide +kernel
set_option maxRecDepth 20000 in
theorem ggX0_worst_X0_isColouring : GoodIn wsX0_worst wsX0_isColouring := goodIn_r _ [5, 6, 7, 8, 4, 9, 10, 38, 39, 40, 41, 42, 43, 44, 45, 46, 47, 48, 49, 50, 51, 52] (by decide +kernel) (by decide +kernel)
set_option maxRecDepth 20000 in
theorem gX0_worst_X0_isColouring : GoodIn wsX0_worst (wsV RX0 90 RX0 yX0_isColouring wsX0_isColouring) := goodIn_app (goodIn_of _ (by decide +kernel)) ggX0_worst_X0_isColouring
set_option maxRecDepth 20000 in
theorem ggX0_worst_X0_worstOf : GoodIn wsX0_worst wsX0_worstOf := goodIn_r _ [14, 15, 16, 17, 18, 19, 20, 21, 22, 4, 23, 24, 25, 26, 27, 28, 29, 30, 31, 32, 33, 34, 35, 36, 37, 38, 39, 40, 41, 42, 43, 44, 45, 46, 47, 48, 49, 50, 51, 52] (by decide +kernel) (by decide +kernel)
set_option maxRecDepth 20000 in
theorem gX0_worst_X0_worstOf : GoodIn wsX0_worst (wsV RX0 103 RX0 yX0_worstOf wsX0_worstOf) := goodIn_app (goodIn_of _ (by decide +kernel)) ggX0_worst_X0_worstOf
theorem dX0_worst_0 : decode cX0_worst 0 = .ok (.aload_n 0, 1) := by decide +kernel
theorem dX0_worst_1 : decode cX0_worst 1 = .ok (.iload_n 1, 1) := by decide +kernel
theorem dX0_worst_2 : decode cX0_worst 2 = .ok (.invokevirtual 90, 3) := by decide +kernel
theorem dX0_worst_5 : decode cX0_worst 5 = .ok (.ifCond .eq 11, 3) := by decide +kernel
theorem dX0_worst_8 : decode cX0_worst 8 = .ok (.aload_n 0, 1) := by decide +kernel
theorem dX0_worst_9 : decode cX0_worst 9 = .ok (.iload_n 1, 1) := by decide +kernel
theorem dX0_worst_10 : decode cX0_worst 10 = .ok (.invokevirtual 103, 3) := by decide +kernel
theorem dX0_worst_13 : decode cX0_worst 13 = .ok (.goto 4, 3) := by decide +kernel
theorem dX0_worst_16 : decode cX0_worst 16 = .ok (.iconst (-1), 1) := by decide +kernel
theorem dX0_worst_17 : decode cX0_worst 17 = .ok (.ireturn, 1) := by decide +kernel
set_option maxRecDepth 20000 in
theorem ggX0_squares_X0_isColouring : GoodIn wsX0_squares wsX0_isColouring := goodIn_r _ [5, 6, 7, 8, 4, 9, 10, 35, 36, 37, 38, 39, 40, 41, 42, 43, 44, 45, 46, 47, 48, 49] (by decide +kernel) (by decide +kernel)
set_option maxRecDepth 20000 in
theorem gX0_squares_X0_isColouring : GoodIn wsX0_squares (wsV RX0 90 RX0 yX0_isColouring wsX0_isColouring) := goodIn_app (goodIn_of _ (by decide +kernel)) ggX0_squares_X0_isColouring
set_option maxRecDepth 20000 in
theorem ggX0_squares_X0_squaresOf : GoodIn wsX0_squares wsX0_squaresOf := goodIn_r _ [14, 15, 16, 17, 18, 4, 19, 20, 21, 22, 23, 24, 25, 26, 27, 28, 29, 30, 31, 32, 33, 34, 35, 36, 37, 38, 39, 40, 41, 42, 43, 44, 45, 46, 47, 48, 49] (by decide +kernel) (by decide +kernel)
set_option maxRecDepth 20000 in
theorem gX0_squares_X0_squaresOf : GoodIn wsX0_squares (wsV RX0 106 RX0 yX0_squaresOf wsX0_squaresOf) := goodIn_app (goodIn_of _ (by decide +kernel)) ggX0_squares_X0_squaresOf
theorem dX0_squares_0 : decode cX0_squares 0 = .ok (.aload_n 0, 1) := by decide +kernel
theorem dX0_squares_1 : decode cX0_squares 1 = .ok (.iload_n 1, 1) := by decide +kernel
theorem dX0_squares_2 : decode cX0_squares 2 = .ok (.invokevirtual 90, 3) := by decide +kernel
theorem dX0_squares_5 : decode cX0_squares 5 = .ok (.ifCond .eq 11, 3) := by decide +kernel
theorem dX0_squares_8 : decode cX0_squares 8 = .ok (.aload_n 0, 1) := by decide +kernel
theorem dX0_squares_9 : decode cX0_squares 9 = .ok (.iload_n 1, 1) := by decide +kernel
theorem dX0_squares_10 : decode cX0_squares 10 = .ok (.invokevirtual 106, 3) := by decide +kernel
theorem dX0_squares_13 : decode cX0_squares 13 = .ok (.goto 4, 3) := by decide +kernel
theorem dX0_squares_16 : decode cX0_squares 16 = .ok (.iconst (-1), 1) := by decide +kernel
theorem dX0_squares_17 : decode cX0_squares 17 = .ok (.ireturn, 1) := by decide +kernel
set_option maxRecDepth 20000 in
theorem ggX0_times_X0_bitOf : GoodIn wsX0_times wsX0_bitOf := goodIn_r _ [11] (by decide +kernel) (by decide +kernel)
set_option maxRecDepth 20000 in
theorem gX0_times_X0_bitOf : GoodIn wsX0_times (va_wsS RX0 83 yX0_bitOf wsX0_bitOf) := goodIn_app (goodIn_of _ (by decide +kernel)) ggX0_times_X0_bitOf
theorem dX0_times_0 : decode cX0_times 0 = .ok (.iconst 0, 1) := by decide +kernel
theorem dX0_times_1 : decode cX0_times 1 = .ok (.istore_n 1, 1) := by decide +kernel
theorem dX0_times_2 : decode cX0_times 2 = .ok (.iconst 0, 1) := by decide +kernel
theorem dX0_times_3 : decode cX0_times 3 = .ok (.istore_n 2, 1) := by decide +kernel
theorem dX0_times_4 : decode cX0_times 4 = .ok (.iload_n 2, 1) := by decide +kernel
theorem dX0_times_5 : decode cX0_times 5 = .ok (.aload_n 0, 1) := by decide +kernel
theorem dX0_times_6 : decode cX0_times 6 = .ok (.getfield 7, 3) := by decide +kernel
theorem dX0_times_9 : decode cX0_times 9 = .ok (.if_icmp .ge 49, 3) := by decide +kernel
theorem dX0_times_12 : decode cX0_times 12 = .ok (.iconst 0, 1) := by decide +kernel
theorem dX0_times_13 : decode cX0_times 13 = .ok (.istore_n 3, 1) := by decide +kernel
theorem dX0_times_14 : decode cX0_times 14 = .ok (.iconst 0, 1) := by decide +kernel
theorem dX0_times_15 : decode cX0_times 15 = .ok (.istore 4, 2) := by decide +kernel
theorem dX0_times_17 : decode cX0_times 17 = .ok (.iload 4, 2) := by decide +kernel
theorem dX0_times_19 : decode cX0_times 19 = .ok (.aload_n 0, 1) := by decide +kernel
theorem dX0_times_20 : decode cX0_times 20 = .ok (.getfield 29, 3) := by decide +kernel
theorem dX0_times_23 : decode cX0_times 23 = .ok (.if_icmp .ge 23, 3) := by decide +kernel
end
section
theorem dX0_times_26 : decode cX0_times 26 = .ok (.iload_n 3, 1) := by decide +kernel
theorem dX0_times_27 : decode cX0_times 27 = .ok (.aload_n 0, 1) := by decide +kernel
theorem dX0_times_28 : decode cX0_times 28 = .ok (.getfield 41, 3) := by decide +kernel
theorem dX0_times_31 : decode cX0_times 31 = .ok (.iload 4, 2) := by decide +kernel
theorem dX0_times_33 : decode cX0_times 33 = .ok (.iaload, 1) := by decide +kernel
theorem dX0_times_34 : decode cX0_times 34 = .ok (.iload_n 2, 1) := by decide +kernel
theorem dX0_times_35 : decode cX0_times 35 = .ok (.invokestatic 83, 3) := by decide +kernel
theorem dX0_times_38 : decode cX0_times 38 = .ok (.iadd, 1) := by decide +kernel
theorem dX0_times_39 : decode cX0_times 39 = .ok (.istore_n 3, 1) := by decide +kernel
theorem dX0_times_40 : decode cX0_times 40 = .ok (.iinc 4 1, 3) := by decide +kernel
theorem dX0_times_43 : decode cX0_times 43 = .ok (.goto (-26), 3) := by decide +kernel
theorem dX0_times_46 : decode cX0_times 46 = .ok (.iload_n 1, 1) := by decide +kernel
theorem dX0_times_47 : decode cX0_times 47 = .ok (.iload_n 3, 1) := by decide +kernel
theorem dX0_times_48 : decode cX0_times 48 = .ok (.invokestatic 109, 3) := by decide +kernel
theorem dX0_times_51 : decode cX0_times 51 = .ok (.istore_n 1, 1) := by decide +kernel
theorem dX0_times_52 : decode cX0_times 52 = .ok (.iinc 2 1, 3) := by decide +kernel
theorem dX0_times_55 : decode cX0_times 55 = .ok (.goto (-51), 3) := by decide +kernel
theorem dX0_times_58 : decode cX0_times 58 = .ok (.iload_n 1, 1) := by decide +kernel
theorem dX0_times_59 : decode cX0_times 59 = .ok (.ireturn, 1) := by decide +kernel
set_option maxRecDepth 20000 in
theorem ggX0_least_X0_firstLeast : GoodIn wsX0_least wsX0_firstLeast := goodIn_r _ [5, 6, 7, 8, 9, 4, 10, 11, 12, 13, 14, 15, 16, 17, 18, 19, 20, 21, 22, 23, 24, 25, 26, 27, 28, 29, 30, 31, 32, 33, 34, 35, 36, 37, 38, 39, 40, 41, 42, 43, 44, 45, 46, 47, 48, 49, 50, 51, 52, 53, 54, 55, 56, 57, 58] (by decide +kernel) (by decide +kernel)
set_option maxRecDepth 20000 in
theorem gX0_least_X0_firstLeast : GoodIn wsX0_least (wsV RX0 114 RX0 yX0_firstLeast wsX0_firstLeast) := goodIn_app (goodIn_of _ (by decide +kernel)) ggX0_least_X0_firstLeast
set_option maxRecDepth 20000 in
theorem ggX0_least_X0_worstOf : GoodIn wsX0_least wsX0_worstOf := goodIn_r _ [10, 11, 12, 13, 14, 15, 16, 17, 18, 4, 19, 20, 21, 22, 23, 24, 25, 26, 27, 28, 29, 30, 31, 32, 33, 44, 45, 46, 47, 48, 49, 50, 51, 52, 53, 54, 55, 56, 57, 58] (by decide +kernel) (by decide +kernel)
set_option maxRecDepth 20000 in
theorem gX0_least_X0_worstOf : GoodIn wsX0_least (wsV RX0 103 RX0 yX0_worstOf wsX0_worstOf) := goodIn_app (goodIn_of _ (by decide +kernel)) ggX0_least_X0_worstOf
theorem dX0_least_0 : decode cX0_least 0 = .ok (.aload_n 0, 1) := by decide +kernel
theorem dX0_least_1 : decode cX0_least 1 = .ok (.aload_n 0, 1) := by decide +kernel
theorem dX0_least_2 : decode cX0_least 2 = .ok (.invokevirtual 114, 3) := by decide +kernel
theorem dX0_least_5 : decode cX0_least 5 = .ok (.invokevirtual 103, 3) := by decide +kernel
theorem dX0_least_8 : decode cX0_least 8 = .ok (.ireturn, 1) := by decide +kernel
set_option maxRecDepth 20000 in
theorem ggX0_first_X0_firstLeast : GoodIn wsX0_first wsX0_firstLeast := goodIn_r _ [5, 6, 7, 8, 9, 4, 10, 11, 12, 13, 14, 15, 16, 17, 18, 19, 20, 21, 22, 23, 24, 25, 26, 27, 28, 29, 30, 31, 32, 33, 34, 35, 36, 37, 38, 39, 40, 41, 42, 43, 44, 45, 46, 47, 48, 49, 50, 51, 52, 53, 54, 55, 56, 57, 58] (by decide +kernel) (by decide +kernel)
set_option maxRecDepth 20000 in
theorem gX0_first_X0_firstLeast : GoodIn wsX0_first (wsV RX0 114 RX0 yX0_firstLeast wsX0_firstLeast) := goodIn_app (goodIn_of _ (by decide +kernel)) ggX0_first_X0_firstLeast
theorem dX0_first_0 : decode cX0_first 0 = .ok (.aload_n 0, 1) := by decide +kernel
theorem dX0_first_1 : decode cX0_first 1 = .ok (.invokevirtual 114, 3) := by decide +kernel
theorem dX0_first_4 : decode cX0_first 4 = .ok (.ireturn, 1) := by decide +kernel
set_option maxRecDepth 20000 in
theorem ggX0_many_X0_firstLeast : GoodIn wsX0_many wsX0_firstLeast := goodIn_r _ [5, 6, 7, 8, 9, 4, 10, 11, 12, 13, 14, 15, 16, 17, 18, 19, 20, 21, 22, 23, 24, 25, 26, 27, 28, 29, 30, 31, 32, 33, 34, 35, 36, 37, 38, 39, 40, 41, 42, 43, 44, 45, 46, 47, 48, 49, 50, 51, 52, 53, 54, 55, 56, 57, 58] (by decide +kernel) (by decide +kernel)
set_option maxRecDepth 20000 in
theorem gX0_many_X0_firstLeast : GoodIn wsX0_many (wsV RX0 114 RX0 yX0_firstLeast wsX0_firstLeast) := goodIn_app (goodIn_of _ (by decide +kernel)) ggX0_many_X0_firstLeast
set_option maxRecDepth 20000 in
theorem ggX0_many_X0_worstOf : GoodIn wsX0_many wsX0_worstOf := goodIn_r _ [10, 11, 12, 13, 14, 15, 16, 17, 18, 4, 19, 20, 21, 22, 23, 24, 25, 26, 27, 28, 29, 30, 31, 32, 33, 44, 45, 46, 47, 48, 49, 50, 51, 52, 53, 54, 55, 56, 57, 58] (by decide +kernel) (by decide +kernel)
set_option maxRecDepth 20000 in
theorem gX0_many_X0_worstOf : GoodIn wsX0_many (wsV RX0 103 RX0 yX0_worstOf wsX0_worstOf) := goodIn_app (goodIn_of _ (by decide +kernel)) ggX0_many_X0_worstOf
set_option maxRecDepth 20000 in
theorem ggX0_many_X0_colouringCount : GoodIn wsX0_many wsX0_colouringCount := goodIn_r _ [37, 38, 44, 45, 46, 47, 48, 49, 50, 51, 52, 53, 54, 55, 56, 57, 58] (by decide +kernel) (by decide +kernel)
set_option maxRecDepth 20000 in
theorem gX0_many_X0_colouringCount : GoodIn wsX0_many (wsV RX0 118 RX0 yX0_colouringCount wsX0_colouringCount) := goodIn_app (goodIn_of _ (by decide +kernel)) ggX0_many_X0_colouringCount
set_option maxRecDepth 20000 in
theorem ggX0_many_X0_keepsToHeld : GoodIn wsX0_many wsX0_keepsToHeld := goodIn_r _ [42, 43, 6, 44, 45, 46, 47, 48, 49, 50, 51, 52, 53, 54, 55, 56, 57, 58] (by decide +kernel) (by decide +kernel)
set_option maxRecDepth 20000 in
theorem gX0_many_X0_keepsToHeld : GoodIn wsX0_many (wsV RX0 121 RX0 yX0_keepsToHeld wsX0_keepsToHeld) := goodIn_app (goodIn_of _ (by decide +kernel)) ggX0_many_X0_keepsToHeld
theorem dX0_many_0 : decode cX0_many 0 = .ok (.aload_n 0, 1) := by decide +kernel
theorem dX0_many_1 : decode cX0_many 1 = .ok (.invokevirtual 114, 3) := by decide +kernel
theorem dX0_many_4 : decode cX0_many 4 = .ok (.istore_n 1, 1) := by decide +kernel
theorem dX0_many_5 : decode cX0_many 5 = .ok (.aload_n 0, 1) := by decide +kernel
theorem dX0_many_6 : decode cX0_many 6 = .ok (.iload_n 1, 1) := by decide +kernel
theorem dX0_many_7 : decode cX0_many 7 = .ok (.invokevirtual 103, 3) := by decide +kernel
theorem dX0_many_10 : decode cX0_many 10 = .ok (.istore_n 2, 1) := by decide +kernel
theorem dX0_many_11 : decode cX0_many 11 = .ok (.iconst 0, 1) := by decide +kernel
theorem dX0_many_12 : decode cX0_many 12 = .ok (.istore_n 3, 1) := by decide +kernel
theorem dX0_many_13 : decode cX0_many 13 = .ok (.iload_n 1, 1) := by decide +kernel
theorem dX0_many_14 : decode cX0_many 14 = .ok (.istore 4, 2) := by decide +kernel
theorem dX0_many_16 : decode cX0_many 16 = .ok (.iload 4, 2) := by decide +kernel
theorem dX0_many_18 : decode cX0_many 18 = .ok (.aload_n 0, 1) := by decide +kernel
theorem dX0_many_19 : decode cX0_many 19 = .ok (.invokevirtual 118, 3) := by decide +kernel
theorem dX0_many_22 : decode cX0_many 22 = .ok (.if_icmp .ge 31, 3) := by decide +kernel
theorem dX0_many_25 : decode cX0_many 25 = .ok (.aload_n 0, 1) := by decide +kernel
theorem dX0_many_26 : decode cX0_many 26 = .ok (.iload 4, 2) := by decide +kernel
theorem dX0_many_28 : decode cX0_many 28 = .ok (.invokevirtual 121, 3) := by decide +kernel
theorem dX0_many_31 : decode cX0_many 31 = .ok (.ifCond .eq 16, 3) := by decide +kernel
theorem dX0_many_34 : decode cX0_many 34 = .ok (.aload_n 0, 1) := by decide +kernel
theorem dX0_many_35 : decode cX0_many 35 = .ok (.iload 4, 2) := by decide +kernel
theorem dX0_many_37 : decode cX0_many 37 = .ok (.invokevirtual 103, 3) := by decide +kernel
theorem dX0_many_40 : decode cX0_many 40 = .ok (.iload_n 2, 1) := by decide +kernel
theorem dX0_many_41 : decode cX0_many 41 = .ok (.if_icmp .ne 6, 3) := by decide +kernel
theorem dX0_many_44 : decode cX0_many 44 = .ok (.iinc 3 1, 3) := by decide +kernel
theorem dX0_many_47 : decode cX0_many 47 = .ok (.iinc 4 1, 3) := by decide +kernel
theorem dX0_many_50 : decode cX0_many 50 = .ok (.goto (-34), 3) := by decide +kernel
theorem dX0_many_53 : decode cX0_many 53 = .ok (.iload_n 3, 1) := by decide +kernel
theorem dX0_many_54 : decode cX0_many 54 = .ok (.ireturn, 1) := by decide +kernel
set_option maxRecDepth 20000 in
theorem ggX0_fewest_X0_squaresOf : GoodIn wsX0_fewest wsX0_squaresOf := goodIn_r _ [10, 11, 12, 13, 14, 9, 15, 16, 17, 18, 4, 19, 20, 21, 22, 23, 24, 25, 26, 27, 28, 29, 40, 41, 42, 43, 44, 45, 46, 47, 48, 49, 50, 51, 52, 53, 54] (by decide +kernel) (by decide +kernel)
set_option maxRecDepth 20000 in
theorem gX0_fewest_X0_squaresOf : GoodIn wsX0_fewest (wsV RX0 106 RX0 yX0_squaresOf wsX0_squaresOf) := goodIn_app (goodIn_of _ (by decide +kernel)) ggX0_fewest_X0_squaresOf
set_option maxRecDepth 20000 in
theorem ggX0_fewest_X0_colouringCount : GoodIn wsX0_fewest wsX0_colouringCount := goodIn_r _ [33, 34, 40, 41, 42, 43, 44, 45, 46, 47, 48, 49, 50, 51, 52, 53, 54] (by decide +kernel) (by decide +kernel)
set_option maxRecDepth 20000 in
theorem gX0_fewest_X0_colouringCount : GoodIn wsX0_fewest (wsV RX0 118 RX0 yX0_colouringCount wsX0_colouringCount) := goodIn_app (goodIn_of _ (by decide +kernel)) ggX0_fewest_X0_colouringCount
set_option maxRecDepth 20000 in
theorem ggX0_fewest_X0_keepsToHeld : GoodIn wsX0_fewest wsX0_keepsToHeld := goodIn_r _ [38, 39, 1, 40, 41, 42, 43, 44, 45, 46, 47, 48, 49, 50, 51, 52, 53, 54] (by decide +kernel) (by decide +kernel)
set_option maxRecDepth 20000 in
theorem gX0_fewest_X0_keepsToHeld : GoodIn wsX0_fewest (wsV RX0 121 RX0 yX0_keepsToHeld wsX0_keepsToHeld) := goodIn_app (goodIn_of _ (by decide +kernel)) ggX0_fewest_X0_keepsToHeld
theorem dX0_fewest_0 : decode cX0_fewest 0 = .ok (.aload_n 0, 1) := by decide +kernel
theorem dX0_fewest_1 : decode cX0_fewest 1 = .ok (.aload_n 0, 1) := by decide +kernel
theorem dX0_fewest_2 : decode cX0_fewest 2 = .ok (.getfield 23, 3) := by decide +kernel
theorem dX0_fewest_5 : decode cX0_fewest 5 = .ok (.invokevirtual 106, 3) := by decide +kernel
theorem dX0_fewest_8 : decode cX0_fewest 8 = .ok (.istore_n 1, 1) := by decide +kernel
theorem dX0_fewest_9 : decode cX0_fewest 9 = .ok (.aload_n 0, 1) := by decide +kernel
theorem dX0_fewest_10 : decode cX0_fewest 10 = .ok (.getfield 23, 3) := by decide +kernel
theorem dX0_fewest_13 : decode cX0_fewest 13 = .ok (.iconst 1, 1) := by decide +kernel
theorem dX0_fewest_14 : decode cX0_fewest 14 = .ok (.iadd, 1) := by decide +kernel
theorem dX0_fewest_15 : decode cX0_fewest 15 = .ok (.istore_n 2, 1) := by decide +kernel
theorem dX0_fewest_16 : decode cX0_fewest 16 = .ok (.iload_n 2, 1) := by decide +kernel
theorem dX0_fewest_17 : decode cX0_fewest 17 = .ok (.aload_n 0, 1) := by decide +kernel
theorem dX0_fewest_18 : decode cX0_fewest 18 = .ok (.invokevirtual 118, 3) := by decide +kernel
theorem dX0_fewest_21 : decode cX0_fewest 21 = .ok (.if_icmp .ge 27, 3) := by decide +kernel
theorem dX0_fewest_24 : decode cX0_fewest 24 = .ok (.aload_n 0, 1) := by decide +kernel
theorem dX0_fewest_25 : decode cX0_fewest 25 = .ok (.iload_n 2, 1) := by decide +kernel
theorem dX0_fewest_26 : decode cX0_fewest 26 = .ok (.invokevirtual 121, 3) := by decide +kernel
theorem dX0_fewest_29 : decode cX0_fewest 29 = .ok (.ifCond .eq 13, 3) := by decide +kernel
theorem dX0_fewest_32 : decode cX0_fewest 32 = .ok (.iload_n 1, 1) := by decide +kernel
theorem dX0_fewest_33 : decode cX0_fewest 33 = .ok (.aload_n 0, 1) := by decide +kernel
theorem dX0_fewest_34 : decode cX0_fewest 34 = .ok (.iload_n 2, 1) := by decide +kernel
theorem dX0_fewest_35 : decode cX0_fewest 35 = .ok (.invokevirtual 106, 3) := by decide +kernel
theorem dX0_fewest_38 : decode cX0_fewest 38 = .ok (.invokestatic 124, 3) := by decide +kernel
theorem dX0_fewest_41 : decode cX0_fewest 41 = .ok (.istore_n 1, 1) := by decide +kernel
theorem dX0_fewest_42 : decode cX0_fewest 42 = .ok (.iinc 2 1, 3) := by decide +kernel
theorem dX0_fewest_45 : decode cX0_fewest 45 = .ok (.goto (-29), 3) := by decide +kernel
theorem dX0_fewest_48 : decode cX0_fewest 48 = .ok (.iload_n 1, 1) := by decide +kernel
theorem dX0_fewest_49 : decode cX0_fewest 49 = .ok (.ireturn, 1) := by decide +kernel
theorem dX0_turns_0 : decode cX0_turns 0 = .ok (.iconst 0, 1) := by decide +kernel
theorem dX0_turns_1 : decode cX0_turns 1 = .ok (.istore_n 1, 1) := by decide +kernel
theorem dX0_turns_2 : decode cX0_turns 2 = .ok (.iconst 1, 1) := by decide +kernel
theorem dX0_turns_3 : decode cX0_turns 3 = .ok (.istore_n 2, 1) := by decide +kernel
theorem dX0_turns_4 : decode cX0_turns 4 = .ok (.iload_n 2, 1) := by decide +kernel
theorem dX0_turns_5 : decode cX0_turns 5 = .ok (.aload_n 0, 1) := by decide +kernel
theorem dX0_turns_6 : decode cX0_turns 6 = .ok (.getfield 7, 3) := by decide +kernel
theorem dX0_turns_9 : decode cX0_turns 9 = .ok (.if_icmp .ge 15, 3) := by decide +kernel
theorem dX0_turns_12 : decode cX0_turns 12 = .ok (.iload_n 1, 1) := by decide +kernel
theorem dX0_turns_13 : decode cX0_turns 13 = .ok (.iconst 1, 1) := by decide +kernel
theorem dX0_turns_14 : decode cX0_turns 14 = .ok (.iload_n 2, 1) := by decide +kernel
theorem dX0_turns_15 : decode cX0_turns 15 = .ok (.ishl, 1) := by decide +kernel
theorem dX0_turns_16 : decode cX0_turns 16 = .ok (.ior, 1) := by decide +kernel
theorem dX0_turns_17 : decode cX0_turns 17 = .ok (.istore_n 1, 1) := by decide +kernel
theorem dX0_turns_18 : decode cX0_turns 18 = .ok (.iinc 2 2, 3) := by decide +kernel
theorem dX0_turns_21 : decode cX0_turns 21 = .ok (.goto (-17), 3) := by decide +kernel
theorem dX0_turns_24 : decode cX0_turns 24 = .ok (.iload_n 1, 1) := by decide +kernel
theorem dX0_turns_25 : decode cX0_turns 25 = .ok (.ireturn, 1) := by decide +kernel
set_option maxRecDepth 20000 in
theorem ggX0_pairs_J7_fill_53178 : GoodIn wsX0_pairs wsJ7_fill_53178 := goodIn_r _ [6] (by decide +kernel) (by decide +kernel)
set_option maxRecDepth 20000 in
theorem gX0_pairs_J7_fill_53178 : GoodIn wsX0_pairs (va_wsS RX0 127 yJ7_fill_53178 wsJ7_fill_53178) := goodIn_app (goodIn_of _ (by decide +kernel)) ggX0_pairs_J7_fill_53178
set_option maxRecDepth 20000 in
theorem ggX0_pairs_X0_colourAlongPairs : GoodIn wsX0_pairs wsX0_colourAlongPairs := goodIn_r _ [11, 2, 1, 12, 13, 14, 10, 15, 16, 17, 18, 19, 20, 21, 22, 23, 24, 25, 26, 27, 28, 29, 30, 31, 32, 33, 34, 35, 36, 37, 38, 39, 40] (by decide +kernel) (by decide +kernel)
set_option maxRecDepth 20000 in
theorem gX0_pairs_X0_colourAlongPairs : GoodIn wsX0_pairs (wsV RX0 133 RX0 yX0_colourAlongPairs wsX0_colourAlongPairs) := goodIn_app (goodIn_of _ (by decide +kernel)) ggX0_pairs_X0_colourAlongPairs
theorem dX0_pairs_0 : decode cX0_pairs 0 = .ok (.aload_n 0, 1) := by decide +kernel
theorem dX0_pairs_1 : decode cX0_pairs 1 = .ok (.getfield 26, 3) := by decide +kernel
theorem dX0_pairs_4 : decode cX0_pairs 4 = .ok (.iconst (-1), 1) := by decide +kernel
theorem dX0_pairs_5 : decode cX0_pairs 5 = .ok (.invokestatic 127, 3) := by decide +kernel
theorem dX0_pairs_8 : decode cX0_pairs 8 = .ok (.iconst 0, 1) := by decide +kernel
theorem dX0_pairs_9 : decode cX0_pairs 9 = .ok (.istore_n 1, 1) := by decide +kernel
theorem dX0_pairs_10 : decode cX0_pairs 10 = .ok (.iconst 0, 1) := by decide +kernel
theorem dX0_pairs_11 : decode cX0_pairs 11 = .ok (.istore_n 2, 1) := by decide +kernel
theorem dX0_pairs_12 : decode cX0_pairs 12 = .ok (.iload_n 2, 1) := by decide +kernel
theorem dX0_pairs_13 : decode cX0_pairs 13 = .ok (.aload_n 0, 1) := by decide +kernel
theorem dX0_pairs_14 : decode cX0_pairs 14 = .ok (.getfield 7, 3) := by decide +kernel
theorem dX0_pairs_17 : decode cX0_pairs 17 = .ok (.if_icmp .ge 49, 3) := by decide +kernel
theorem dX0_pairs_20 : decode cX0_pairs 20 = .ok (.aload_n 0, 1) := by decide +kernel
theorem dX0_pairs_21 : decode cX0_pairs 21 = .ok (.getfield 26, 3) := by decide +kernel
theorem dX0_pairs_24 : decode cX0_pairs 24 = .ok (.iload_n 2, 1) := by decide +kernel
theorem dX0_pairs_25 : decode cX0_pairs 25 = .ok (.iaload, 1) := by decide +kernel
theorem dX0_pairs_26 : decode cX0_pairs 26 = .ok (.iconst (-1), 1) := by decide +kernel
theorem dX0_pairs_27 : decode cX0_pairs 27 = .ok (.if_icmp .ne 22, 3) := by decide +kernel
theorem dX0_pairs_30 : decode cX0_pairs 30 = .ok (.aload_n 0, 1) := by decide +kernel
theorem dX0_pairs_31 : decode cX0_pairs 31 = .ok (.getfield 26, 3) := by decide +kernel
theorem dX0_pairs_34 : decode cX0_pairs 34 = .ok (.iload_n 2, 1) := by decide +kernel
theorem dX0_pairs_35 : decode cX0_pairs 35 = .ok (.iconst 0, 1) := by decide +kernel
theorem dX0_pairs_36 : decode cX0_pairs 36 = .ok (.iastore, 1) := by decide +kernel
theorem dX0_pairs_37 : decode cX0_pairs 37 = .ok (.aload_n 0, 1) := by decide +kernel
theorem dX0_pairs_38 : decode cX0_pairs 38 = .ok (.iload_n 2, 1) := by decide +kernel
theorem dX0_pairs_39 : decode cX0_pairs 39 = .ok (.iconst 1, 1) := by decide +kernel
theorem dX0_pairs_40 : decode cX0_pairs 40 = .ok (.invokevirtual 133, 3) := by decide +kernel
theorem dX0_pairs_43 : decode cX0_pairs 43 = .ok (.aload_n 0, 1) := by decide +kernel
theorem dX0_pairs_44 : decode cX0_pairs 44 = .ok (.iload_n 2, 1) := by decide +kernel
theorem dX0_pairs_45 : decode cX0_pairs 45 = .ok (.iconst 0, 1) := by decide +kernel
theorem dX0_pairs_46 : decode cX0_pairs 46 = .ok (.invokevirtual 133, 3) := by decide +kernel
theorem dX0_pairs_49 : decode cX0_pairs 49 = .ok (.iload_n 1, 1) := by decide +kernel
theorem dX0_pairs_50 : decode cX0_pairs 50 = .ok (.aload_n 0, 1) := by decide +kernel
theorem dX0_pairs_51 : decode cX0_pairs 51 = .ok (.getfield 26, 3) := by decide +kernel
theorem dX0_pairs_54 : decode cX0_pairs 54 = .ok (.iload_n 2, 1) := by decide +kernel
theorem dX0_pairs_55 : decode cX0_pairs 55 = .ok (.iaload, 1) := by decide +kernel
theorem dX0_pairs_56 : decode cX0_pairs 56 = .ok (.iload_n 2, 1) := by decide +kernel
theorem dX0_pairs_57 : decode cX0_pairs 57 = .ok (.ishl, 1) := by decide +kernel
theorem dX0_pairs_58 : decode cX0_pairs 58 = .ok (.ior, 1) := by decide +kernel
theorem dX0_pairs_59 : decode cX0_pairs 59 = .ok (.istore_n 1, 1) := by decide +kernel
theorem dX0_pairs_60 : decode cX0_pairs 60 = .ok (.iinc 2 1, 3) := by decide +kernel
theorem dX0_pairs_63 : decode cX0_pairs 63 = .ok (.goto (-51), 3) := by decide +kernel
theorem dX0_pairs_66 : decode cX0_pairs 66 = .ok (.iload_n 1, 1) := by decide +kernel
theorem dX0_pairs_67 : decode cX0_pairs 67 = .ok (.ireturn, 1) := by decide +kernel
set_option maxRecDepth 20000 in
theorem ggX0_come_X0_colourOnComing : GoodIn wsX0_come wsX0_colourOnComing := goodIn_r _ [6, 7, 8, 9, 10, 11, 12, 5, 13, 14, 15, 16, 17, 18, 19, 20, 21, 22, 23, 24, 25, 26, 27, 28, 29, 30, 31, 32, 33, 34, 35, 36, 37, 38, 39, 40, 41, 42] (by decide +kernel) (by decide +kernel)
set_option maxRecDepth 20000 in
theorem gX0_come_X0_colourOnComing : GoodIn wsX0_come (wsV RX0 137 RX0 yX0_colourOnComing wsX0_colourOnComing) := goodIn_app (goodIn_of _ (by decide +kernel)) ggX0_come_X0_colourOnComing
theorem dX0_come_0 : decode cX0_come 0 = .ok (.iconst 0, 1) := by decide +kernel
theorem dX0_come_1 : decode cX0_come 1 = .ok (.istore_n 1, 1) := by decide +kernel
theorem dX0_come_2 : decode cX0_come 2 = .ok (.iconst 0, 1) := by decide +kernel
theorem dX0_come_3 : decode cX0_come 3 = .ok (.istore_n 2, 1) := by decide +kernel
theorem dX0_come_4 : decode cX0_come 4 = .ok (.iload_n 2, 1) := by decide +kernel
theorem dX0_come_5 : decode cX0_come 5 = .ok (.aload_n 0, 1) := by decide +kernel
theorem dX0_come_6 : decode cX0_come 6 = .ok (.getfield 7, 3) := by decide +kernel
theorem dX0_come_9 : decode cX0_come 9 = .ok (.if_icmp .ge 20, 3) := by decide +kernel
theorem dX0_come_12 : decode cX0_come 12 = .ok (.iload_n 1, 1) := by decide +kernel
theorem dX0_come_13 : decode cX0_come 13 = .ok (.aload_n 0, 1) := by decide +kernel
theorem dX0_come_14 : decode cX0_come 14 = .ok (.iload_n 2, 1) := by decide +kernel
theorem dX0_come_15 : decode cX0_come 15 = .ok (.iload_n 1, 1) := by decide +kernel
theorem dX0_come_16 : decode cX0_come 16 = .ok (.invokevirtual 137, 3) := by decide +kernel
theorem dX0_come_19 : decode cX0_come 19 = .ok (.iload_n 2, 1) := by decide +kernel
theorem dX0_come_20 : decode cX0_come 20 = .ok (.ishl, 1) := by decide +kernel
theorem dX0_come_21 : decode cX0_come 21 = .ok (.ior, 1) := by decide +kernel
theorem dX0_come_22 : decode cX0_come 22 = .ok (.istore_n 1, 1) := by decide +kernel
theorem dX0_come_23 : decode cX0_come 23 = .ok (.iinc 2 1, 3) := by decide +kernel
theorem dX0_come_26 : decode cX0_come 26 = .ok (.goto (-22), 3) := by decide +kernel
theorem dX0_come_29 : decode cX0_come 29 = .ok (.iload_n 1, 1) := by decide +kernel
theorem dX0_come_30 : decode cX0_come 30 = .ok (.ireturn, 1) := by decide +kernel
theorem dX0_colouringCount_0 : decode cX0_colouringCount 0 = .ok (.iconst 1, 1) := by decide +kernel
theorem dX0_colouringCount_1 : decode cX0_colouringCount 1 = .ok (.aload_n 0, 1) := by decide +kernel
theorem dX0_colouringCount_2 : decode cX0_colouringCount 2 = .ok (.getfield 7, 3) := by decide +kernel
theorem dX0_colouringCount_5 : decode cX0_colouringCount 5 = .ok (.ishl, 1) := by decide +kernel
theorem dX0_colouringCount_6 : decode cX0_colouringCount 6 = .ok (.ireturn, 1) := by decide +kernel
set_option maxRecDepth 20000 in
theorem ggX0_isColouring_X0_colouringCount : GoodIn wsX0_isColouring wsX0_colouringCount := goodIn_r _ [5, 6, 7, 8, 9, 10, 11, 12, 13, 14, 15, 16, 17, 18, 19, 20, 21] (by decide +kernel) (by decide +kernel)
set_option maxRecDepth 20000 in
theorem gX0_isColouring_X0_colouringCount : GoodIn wsX0_isColouring (wsV RX0 118 RX0 yX0_colouringCount wsX0_colouringCount) := goodIn_app (goodIn_of _ (by decide +kernel)) ggX0_isColouring_X0_colouringCount
theorem dX0_isColouring_0 : decode cX0_isColouring 0 = .ok (.iload_n 1, 1) := by decide +kernel
theorem dX0_isColouring_1 : decode cX0_isColouring 1 = .ok (.ifCond .lt 15, 3) := by decide +kernel
theorem dX0_isColouring_4 : decode cX0_isColouring 4 = .ok (.iload_n 1, 1) := by decide +kernel
theorem dX0_isColouring_5 : decode cX0_isColouring 5 = .ok (.aload_n 0, 1) := by decide +kernel
theorem dX0_isColouring_6 : decode cX0_isColouring 6 = .ok (.invokevirtual 118, 3) := by decide +kernel
theorem dX0_isColouring_9 : decode cX0_isColouring 9 = .ok (.if_icmp .ge 7, 3) := by decide +kernel
theorem dX0_isColouring_12 : decode cX0_isColouring 12 = .ok (.iconst 1, 1) := by decide +kernel
theorem dX0_isColouring_13 : decode cX0_isColouring 13 = .ok (.goto 4, 3) := by decide +kernel
theorem dX0_isColouring_16 : decode cX0_isColouring 16 = .ok (.iconst 0, 1) := by decide +kernel
theorem dX0_isColouring_17 : decode cX0_isColouring 17 = .ok (.ireturn, 1) := by decide +kernel
theorem dX0_keepsToHeld_0 : decode cX0_keepsToHeld 0 = .ok (.iload_n 1, 1) := by decide +kernel
theorem dX0_keepsToHeld_1 : decode cX0_keepsToHeld 1 = .ok (.aload_n 0, 1) := by decide +kernel
theorem dX0_keepsToHeld_2 : decode cX0_keepsToHeld 2 = .ok (.getfield 20, 3) := by decide +kernel
theorem dX0_keepsToHeld_5 : decode cX0_keepsToHeld 5 = .ok (.iand, 1) := by decide +kernel
theorem dX0_keepsToHeld_6 : decode cX0_keepsToHeld 6 = .ok (.aload_n 0, 1) := by decide +kernel
theorem dX0_keepsToHeld_7 : decode cX0_keepsToHeld 7 = .ok (.getfield 23, 3) := by decide +kernel
theorem dX0_keepsToHeld_10 : decode cX0_keepsToHeld 10 = .ok (.if_icmp .ne 7, 3) := by decide +kernel
theorem dX0_keepsToHeld_13 : decode cX0_keepsToHeld 13 = .ok (.iconst 1, 1) := by decide +kernel
theorem dX0_keepsToHeld_14 : decode cX0_keepsToHeld 14 = .ok (.goto 4, 3) := by decide +kernel
theorem dX0_keepsToHeld_17 : decode cX0_keepsToHeld 17 = .ok (.iconst 0, 1) := by decide +kernel
theorem dX0_keepsToHeld_18 : decode cX0_keepsToHeld 18 = .ok (.ireturn, 1) := by decide +kernel
set_option maxRecDepth 20000 in
theorem ggX0_leaning_J6_bitCount_0f7a4 : GoodIn wsX0_leaning wsJ6_bitCount_0f7a4 := goodIn_r _ [4, 5, 6, 7] (by decide +kernel) (by decide +kernel)
set_option maxRecDepth 20000 in
theorem gX0_leaning_J6_bitCount_0f7a4 : GoodIn wsX0_leaning (va_wsS RX0 140 yJ6_bitCount_0f7a4 wsJ6_bitCount_0f7a4) := goodIn_app (goodIn_of _ (by decide +kernel)) ggX0_leaning_J6_bitCount_0f7a4
theorem dX0_leaning_0 : decode cX0_leaning 0 = .ok (.iconst 2, 1) := by decide +kernel
theorem dX0_leaning_1 : decode cX0_leaning 1 = .ok (.iload_n 0, 1) := by decide +kernel
theorem dX0_leaning_2 : decode cX0_leaning 2 = .ok (.iload_n 1, 1) := by decide +kernel
theorem dX0_leaning_3 : decode cX0_leaning 3 = .ok (.iand, 1) := by decide +kernel
theorem dX0_leaning_4 : decode cX0_leaning 4 = .ok (.invokestatic 140, 3) := by decide +kernel
theorem dX0_leaning_7 : decode cX0_leaning 7 = .ok (.imul, 1) := by decide +kernel
theorem dX0_leaning_8 : decode cX0_leaning 8 = .ok (.iload_n 0, 1) := by decide +kernel
theorem dX0_leaning_9 : decode cX0_leaning 9 = .ok (.invokestatic 140, 3) := by decide +kernel
theorem dX0_leaning_12 : decode cX0_leaning 12 = .ok (.isub, 1) := by decide +kernel
theorem dX0_leaning_13 : decode cX0_leaning 13 = .ok (.ireturn, 1) := by decide +kernel
set_option maxRecDepth 20000 in
theorem ggX0_offOf_X0_leaning : GoodIn wsX0_offOf wsX0_leaning := goodIn_r _ [9, 10, 11, 12, 13, 14, 15, 16] (by decide +kernel) (by decide +kernel)
set_option maxRecDepth 20000 in
theorem gX0_offOf_X0_leaning : GoodIn wsX0_offOf (va_wsS RX0 145 yX0_leaning wsX0_leaning) := goodIn_app (goodIn_of _ (by decide +kernel)) ggX0_offOf_X0_leaning
theorem dX0_offOf_0 : decode cX0_offOf 0 = .ok (.aload_n 0, 1) := by decide +kernel
theorem dX0_offOf_1 : decode cX0_offOf 1 = .ok (.getfield 41, 3) := by decide +kernel
theorem dX0_offOf_4 : decode cX0_offOf 4 = .ok (.iload_n 2, 1) := by decide +kernel
theorem dX0_offOf_5 : decode cX0_offOf 5 = .ok (.iaload, 1) := by decide +kernel
theorem dX0_offOf_6 : decode cX0_offOf 6 = .ok (.iload_n 1, 1) := by decide +kernel
theorem dX0_offOf_7 : decode cX0_offOf 7 = .ok (.invokestatic 145, 3) := by decide +kernel
theorem dX0_offOf_10 : decode cX0_offOf 10 = .ok (.invokestatic 148, 3) := by decide +kernel
theorem dX0_offOf_13 : decode cX0_offOf 13 = .ok (.ireturn, 1) := by decide +kernel
set_option maxRecDepth 20000 in
theorem ggX0_worstOf_X0_offOf : GoodIn wsX0_worstOf wsX0_offOf := goodIn_r _ [10, 11, 12, 13, 4, 14, 15, 16, 9, 17, 18, 19, 20, 21, 22, 23, 24, 25, 26, 27, 28, 29, 30, 31, 32, 33, 34, 35, 36, 37, 38, 39] (by decide +kernel) (by decide +kernel)
set_option maxRecDepth 20000 in
theorem gX0_worstOf_X0_offOf : GoodIn wsX0_worstOf (wsV RX0 100 RX0 yX0_offOf wsX0_offOf) := goodIn_app (goodIn_of _ (by decide +kernel)) ggX0_worstOf_X0_offOf
theorem dX0_worstOf_0 : decode cX0_worstOf 0 = .ok (.iconst 0, 1) := by decide +kernel
theorem dX0_worstOf_1 : decode cX0_worstOf 1 = .ok (.istore_n 2, 1) := by decide +kernel
theorem dX0_worstOf_2 : decode cX0_worstOf 2 = .ok (.iconst 0, 1) := by decide +kernel
theorem dX0_worstOf_3 : decode cX0_worstOf 3 = .ok (.istore_n 3, 1) := by decide +kernel
theorem dX0_worstOf_4 : decode cX0_worstOf 4 = .ok (.iload_n 3, 1) := by decide +kernel
theorem dX0_worstOf_5 : decode cX0_worstOf 5 = .ok (.aload_n 0, 1) := by decide +kernel
theorem dX0_worstOf_6 : decode cX0_worstOf 6 = .ok (.getfield 29, 3) := by decide +kernel
theorem dX0_worstOf_9 : decode cX0_worstOf 9 = .ok (.if_icmp .ge 20, 3) := by decide +kernel
theorem dX0_worstOf_12 : decode cX0_worstOf 12 = .ok (.iload_n 2, 1) := by decide +kernel
theorem dX0_worstOf_13 : decode cX0_worstOf 13 = .ok (.aload_n 0, 1) := by decide +kernel
theorem dX0_worstOf_14 : decode cX0_worstOf 14 = .ok (.iload_n 1, 1) := by decide +kernel
theorem dX0_worstOf_15 : decode cX0_worstOf 15 = .ok (.iload_n 3, 1) := by decide +kernel
theorem dX0_worstOf_16 : decode cX0_worstOf 16 = .ok (.invokevirtual 100, 3) := by decide +kernel
theorem dX0_worstOf_19 : decode cX0_worstOf 19 = .ok (.invokestatic 109, 3) := by decide +kernel
theorem dX0_worstOf_22 : decode cX0_worstOf 22 = .ok (.istore_n 2, 1) := by decide +kernel
theorem dX0_worstOf_23 : decode cX0_worstOf 23 = .ok (.iinc 3 1, 3) := by decide +kernel
theorem dX0_worstOf_26 : decode cX0_worstOf 26 = .ok (.goto (-22), 3) := by decide +kernel
theorem dX0_worstOf_29 : decode cX0_worstOf 29 = .ok (.iload_n 2, 1) := by decide +kernel
theorem dX0_worstOf_30 : decode cX0_worstOf 30 = .ok (.ireturn, 1) := by decide +kernel
set_option maxRecDepth 20000 in
theorem ggX0_squaresOf_X0_offOf : GoodIn wsX0_squaresOf wsX0_offOf := goodIn_r _ [6, 7, 8, 9, 10, 11, 12, 13, 5, 14, 15, 16, 17, 18, 19, 20, 21, 22, 23, 24, 25, 26, 27, 28, 29, 30, 31, 32, 33, 34, 35, 36] (by decide +kernel) (by decide +kernel)
set_option maxRecDepth 20000 in
theorem gX0_squaresOf_X0_offOf : GoodIn wsX0_squaresOf (wsV RX0 100 RX0 yX0_offOf wsX0_offOf) := goodIn_app (goodIn_of _ (by decide +kernel)) ggX0_squaresOf_X0_offOf
theorem dX0_squaresOf_0 : decode cX0_squaresOf 0 = .ok (.iconst 0, 1) := by decide +kernel
theorem dX0_squaresOf_1 : decode cX0_squaresOf 1 = .ok (.istore_n 2, 1) := by decide +kernel
theorem dX0_squaresOf_2 : decode cX0_squaresOf 2 = .ok (.iconst 0, 1) := by decide +kernel
theorem dX0_squaresOf_3 : decode cX0_squaresOf 3 = .ok (.istore_n 3, 1) := by decide +kernel
theorem dX0_squaresOf_4 : decode cX0_squaresOf 4 = .ok (.iload_n 3, 1) := by decide +kernel
theorem dX0_squaresOf_5 : decode cX0_squaresOf 5 = .ok (.aload_n 0, 1) := by decide +kernel
theorem dX0_squaresOf_6 : decode cX0_squaresOf 6 = .ok (.getfield 29, 3) := by decide +kernel
theorem dX0_squaresOf_9 : decode cX0_squaresOf 9 = .ok (.if_icmp .ge 25, 3) := by decide +kernel
theorem dX0_squaresOf_12 : decode cX0_squaresOf 12 = .ok (.aload_n 0, 1) := by decide +kernel
theorem dX0_squaresOf_13 : decode cX0_squaresOf 13 = .ok (.iload_n 1, 1) := by decide +kernel
theorem dX0_squaresOf_14 : decode cX0_squaresOf 14 = .ok (.iload_n 3, 1) := by decide +kernel
theorem dX0_squaresOf_15 : decode cX0_squaresOf 15 = .ok (.invokevirtual 100, 3) := by decide +kernel
theorem dX0_squaresOf_18 : decode cX0_squaresOf 18 = .ok (.istore 4, 2) := by decide +kernel
theorem dX0_squaresOf_20 : decode cX0_squaresOf 20 = .ok (.iload_n 2, 1) := by decide +kernel
theorem dX0_squaresOf_21 : decode cX0_squaresOf 21 = .ok (.iload 4, 2) := by decide +kernel
theorem dX0_squaresOf_23 : decode cX0_squaresOf 23 = .ok (.iload 4, 2) := by decide +kernel
theorem dX0_squaresOf_25 : decode cX0_squaresOf 25 = .ok (.imul, 1) := by decide +kernel
theorem dX0_squaresOf_26 : decode cX0_squaresOf 26 = .ok (.iadd, 1) := by decide +kernel
theorem dX0_squaresOf_27 : decode cX0_squaresOf 27 = .ok (.istore_n 2, 1) := by decide +kernel
theorem dX0_squaresOf_28 : decode cX0_squaresOf 28 = .ok (.iinc 3 1, 3) := by decide +kernel
theorem dX0_squaresOf_31 : decode cX0_squaresOf 31 = .ok (.goto (-27), 3) := by decide +kernel
theorem dX0_squaresOf_34 : decode cX0_squaresOf 34 = .ok (.iload_n 2, 1) := by decide +kernel
theorem dX0_squaresOf_35 : decode cX0_squaresOf 35 = .ok (.ireturn, 1) := by decide +kernel
set_option maxRecDepth 20000 in
theorem ggX0_firstLeast_X0_worstOf : GoodIn wsX0_firstLeast wsX0_worstOf := goodIn_r _ [6, 7, 8, 9, 10, 11, 12, 13, 14, 5, 15, 16, 17, 18, 19, 20, 21, 22, 23, 24, 25, 26, 27, 28, 29, 40, 41, 42, 43, 44, 45, 46, 47, 48, 49, 50, 51, 52, 53, 54] (by decide +kernel) (by decide +kernel)
set_option maxRecDepth 20000 in
theorem gX0_firstLeast_X0_worstOf : GoodIn wsX0_firstLeast (wsV RX0 103 RX0 yX0_worstOf wsX0_worstOf) := goodIn_app (goodIn_of _ (by decide +kernel)) ggX0_firstLeast_X0_worstOf
set_option maxRecDepth 20000 in
theorem ggX0_firstLeast_X0_colouringCount : GoodIn wsX0_firstLeast wsX0_colouringCount := goodIn_r _ [33, 34, 40, 41, 42, 43, 44, 45, 46, 47, 48, 49, 50, 51, 52, 53, 54] (by decide +kernel) (by decide +kernel)
set_option maxRecDepth 20000 in
theorem gX0_firstLeast_X0_colouringCount : GoodIn wsX0_firstLeast (wsV RX0 118 RX0 yX0_colouringCount wsX0_colouringCount) := goodIn_app (goodIn_of _ (by decide +kernel)) ggX0_firstLeast_X0_colouringCount
set_option maxRecDepth 20000 in
theorem ggX0_firstLeast_X0_keepsToHeld : GoodIn wsX0_firstLeast wsX0_keepsToHeld := goodIn_r _ [38, 39, 1, 40, 41, 42, 43, 44, 45, 46, 47, 48, 49, 50, 51, 52, 53, 54] (by decide +kernel) (by decide +kernel)
set_option maxRecDepth 20000 in
theorem gX0_firstLeast_X0_keepsToHeld : GoodIn wsX0_firstLeast (wsV RX0 121 RX0 yX0_keepsToHeld wsX0_keepsToHeld) := goodIn_app (goodIn_of _ (by decide +kernel)) ggX0_firstLeast_X0_keepsToHeld
theorem dX0_firstLeast_0 : decode cX0_firstLeast 0 = .ok (.aload_n 0, 1) := by decide +kernel
theorem dX0_firstLeast_1 : decode cX0_firstLeast 1 = .ok (.getfield 23, 3) := by decide +kernel
theorem dX0_firstLeast_4 : decode cX0_firstLeast 4 = .ok (.istore_n 1, 1) := by decide +kernel
theorem dX0_firstLeast_5 : decode cX0_firstLeast 5 = .ok (.aload_n 0, 1) := by decide +kernel
theorem dX0_firstLeast_6 : decode cX0_firstLeast 6 = .ok (.iload_n 1, 1) := by decide +kernel
theorem dX0_firstLeast_7 : decode cX0_firstLeast 7 = .ok (.invokevirtual 103, 3) := by decide +kernel
theorem dX0_firstLeast_10 : decode cX0_firstLeast 10 = .ok (.istore_n 2, 1) := by decide +kernel
theorem dX0_firstLeast_11 : decode cX0_firstLeast 11 = .ok (.iload_n 1, 1) := by decide +kernel
theorem dX0_firstLeast_12 : decode cX0_firstLeast 12 = .ok (.iconst 1, 1) := by decide +kernel
theorem dX0_firstLeast_13 : decode cX0_firstLeast 13 = .ok (.iadd, 1) := by decide +kernel
theorem dX0_firstLeast_14 : decode cX0_firstLeast 14 = .ok (.istore_n 3, 1) := by decide +kernel
theorem dX0_firstLeast_15 : decode cX0_firstLeast 15 = .ok (.iload_n 3, 1) := by decide +kernel
theorem dX0_firstLeast_16 : decode cX0_firstLeast 16 = .ok (.aload_n 0, 1) := by decide +kernel
theorem dX0_firstLeast_17 : decode cX0_firstLeast 17 = .ok (.invokevirtual 118, 3) := by decide +kernel
theorem dX0_firstLeast_20 : decode cX0_firstLeast 20 = .ok (.if_icmp .ge 35, 3) := by decide +kernel
theorem dX0_firstLeast_23 : decode cX0_firstLeast 23 = .ok (.aload_n 0, 1) := by decide +kernel
theorem dX0_firstLeast_24 : decode cX0_firstLeast 24 = .ok (.iload_n 3, 1) := by decide +kernel
theorem dX0_firstLeast_25 : decode cX0_firstLeast 25 = .ok (.invokevirtual 121, 3) := by decide +kernel
theorem dX0_firstLeast_28 : decode cX0_firstLeast 28 = .ok (.ifCond .eq 21, 3) := by decide +kernel
theorem dX0_firstLeast_31 : decode cX0_firstLeast 31 = .ok (.aload_n 0, 1) := by decide +kernel
theorem dX0_firstLeast_32 : decode cX0_firstLeast 32 = .ok (.iload_n 3, 1) := by decide +kernel
theorem dX0_firstLeast_33 : decode cX0_firstLeast 33 = .ok (.invokevirtual 103, 3) := by decide +kernel
theorem dX0_firstLeast_36 : decode cX0_firstLeast 36 = .ok (.istore 4, 2) := by decide +kernel
theorem dX0_firstLeast_38 : decode cX0_firstLeast 38 = .ok (.iload 4, 2) := by decide +kernel
theorem dX0_firstLeast_40 : decode cX0_firstLeast 40 = .ok (.iload_n 2, 1) := by decide +kernel
theorem dX0_firstLeast_41 : decode cX0_firstLeast 41 = .ok (.if_icmp .ge 8, 3) := by decide +kernel
theorem dX0_firstLeast_44 : decode cX0_firstLeast 44 = .ok (.iload 4, 2) := by decide +kernel
theorem dX0_firstLeast_46 : decode cX0_firstLeast 46 = .ok (.istore_n 2, 1) := by decide +kernel
theorem dX0_firstLeast_47 : decode cX0_firstLeast 47 = .ok (.iload_n 3, 1) := by decide +kernel
theorem dX0_firstLeast_48 : decode cX0_firstLeast 48 = .ok (.istore_n 1, 1) := by decide +kernel
theorem dX0_firstLeast_49 : decode cX0_firstLeast 49 = .ok (.iinc 3 1, 3) := by decide +kernel
theorem dX0_firstLeast_52 : decode cX0_firstLeast 52 = .ok (.goto (-37), 3) := by decide +kernel
theorem dX0_firstLeast_55 : decode cX0_firstLeast 55 = .ok (.iload_n 1, 1) := by decide +kernel
theorem dX0_firstLeast_56 : decode cX0_firstLeast 56 = .ok (.ireturn, 1) := by decide +kernel
set_option maxRecDepth 20000 in
theorem ggX0_colourAlongPairs_X0_partnerInFirstOrder : GoodIn wsX0_colourAlongPairs wsX0_partnerInFirstOrder := goodIn_r _ [7, 8, 9, 10, 6, 11, 1, 18, 19, 20, 21, 22, 23, 24, 25, 26, 27, 28, 29, 30, 31, 32] (by decide +kernel) (by decide +kernel)
set_option maxRecDepth 20000 in
theorem gX0_colourAlongPairs_X0_partnerInFirstOrder : GoodIn wsX0_colourAlongPairs (wsV RX0 151 RX0 yX0_partnerInFirstOrder wsX0_partnerInFirstOrder) := goodIn_app (goodIn_of _ (by decide +kernel)) ggX0_colourAlongPairs_X0_partnerInFirstOrder
set_option maxRecDepth 20000 in
theorem ggX0_colourAlongPairs_X0_partnerInSecondOrder : GoodIn wsX0_colourAlongPairs wsX0_partnerInSecondOrder := goodIn_r _ [15, 16, 17, 8, 9, 10, 6, 11, 1, 18, 19, 20, 21, 22, 23, 24, 25, 26, 27, 28, 29, 30, 31, 32] (by decide +kernel) (by decide +kernel)
set_option maxRecDepth 20000 in
theorem gX0_colourAlongPairs_X0_partnerInSecondOrder : GoodIn wsX0_colourAlongPairs (wsV RX0 154 RX0 yX0_partnerInSecondOrder wsX0_partnerInSecondOrder) := goodIn_app (goodIn_of _ (by decide +kernel)) ggX0_colourAlongPairs_X0_partnerInSecondOrder
theorem dX0_colourAlongPairs_0 : decode cX0_colourAlongPairs 0 = .ok (.iload_n 1, 1) := by decide +kernel
theorem dX0_colourAlongPairs_1 : decode cX0_colourAlongPairs 1 = .ok (.istore_n 3, 1) := by decide +kernel
theorem dX0_colourAlongPairs_2 : decode cX0_colourAlongPairs 2 = .ok (.iload_n 2, 1) := by decide +kernel
theorem dX0_colourAlongPairs_3 : decode cX0_colourAlongPairs 3 = .ok (.istore 4, 2) := by decide +kernel
theorem dX0_colourAlongPairs_5 : decode cX0_colourAlongPairs 5 = .ok (.iconst 0, 1) := by decide +kernel
theorem dX0_colourAlongPairs_6 : decode cX0_colourAlongPairs 6 = .ok (.istore 5, 2) := by decide +kernel
theorem dX0_colourAlongPairs_8 : decode cX0_colourAlongPairs 8 = .ok (.iload 5, 2) := by decide +kernel
theorem dX0_colourAlongPairs_10 : decode cX0_colourAlongPairs 10 = .ok (.aload_n 0, 1) := by decide +kernel
theorem dX0_colourAlongPairs_11 : decode cX0_colourAlongPairs 11 = .ok (.getfield 7, 3) := by decide +kernel
theorem dX0_colourAlongPairs_14 : decode cX0_colourAlongPairs 14 = .ok (.if_icmp .ge 78, 3) := by decide +kernel
theorem dX0_colourAlongPairs_17 : decode cX0_colourAlongPairs 17 = .ok (.iload 4, 2) := by decide +kernel
theorem dX0_colourAlongPairs_19 : decode cX0_colourAlongPairs 19 = .ok (.ifCond .eq 11, 3) := by decide +kernel
theorem dX0_colourAlongPairs_22 : decode cX0_colourAlongPairs 22 = .ok (.aload_n 0, 1) := by decide +kernel
theorem dX0_colourAlongPairs_23 : decode cX0_colourAlongPairs 23 = .ok (.iload_n 3, 1) := by decide +kernel
theorem dX0_colourAlongPairs_24 : decode cX0_colourAlongPairs 24 = .ok (.invokevirtual 151, 3) := by decide +kernel
theorem dX0_colourAlongPairs_27 : decode cX0_colourAlongPairs 27 = .ok (.goto 8, 3) := by decide +kernel
theorem dX0_colourAlongPairs_30 : decode cX0_colourAlongPairs 30 = .ok (.aload_n 0, 1) := by decide +kernel
theorem dX0_colourAlongPairs_31 : decode cX0_colourAlongPairs 31 = .ok (.iload_n 3, 1) := by decide +kernel
theorem dX0_colourAlongPairs_32 : decode cX0_colourAlongPairs 32 = .ok (.invokevirtual 154, 3) := by decide +kernel
theorem dX0_colourAlongPairs_35 : decode cX0_colourAlongPairs 35 = .ok (.istore 6, 2) := by decide +kernel
theorem dX0_colourAlongPairs_37 : decode cX0_colourAlongPairs 37 = .ok (.iload 6, 2) := by decide +kernel
theorem dX0_colourAlongPairs_39 : decode cX0_colourAlongPairs 39 = .ok (.bipush (-9), 2) := by decide +kernel
theorem dX0_colourAlongPairs_41 : decode cX0_colourAlongPairs 41 = .ok (.if_icmp .eq 14, 3) := by decide +kernel
theorem dX0_colourAlongPairs_44 : decode cX0_colourAlongPairs 44 = .ok (.aload_n 0, 1) := by decide +kernel
theorem dX0_colourAlongPairs_45 : decode cX0_colourAlongPairs 45 = .ok (.getfield 26, 3) := by decide +kernel
theorem dX0_colourAlongPairs_48 : decode cX0_colourAlongPairs 48 = .ok (.iload 6, 2) := by decide +kernel
theorem dX0_colourAlongPairs_50 : decode cX0_colourAlongPairs 50 = .ok (.iaload, 1) := by decide +kernel
theorem dX0_colourAlongPairs_51 : decode cX0_colourAlongPairs 51 = .ok (.iconst (-1), 1) := by decide +kernel
theorem dX0_colourAlongPairs_52 : decode cX0_colourAlongPairs 52 = .ok (.if_icmp .eq 4, 3) := by decide +kernel
theorem dX0_colourAlongPairs_55 : decode cX0_colourAlongPairs 55 = .ok (.return_, 1) := by decide +kernel
theorem dX0_colourAlongPairs_56 : decode cX0_colourAlongPairs 56 = .ok (.aload_n 0, 1) := by decide +kernel
theorem dX0_colourAlongPairs_57 : decode cX0_colourAlongPairs 57 = .ok (.getfield 26, 3) := by decide +kernel
theorem dX0_colourAlongPairs_60 : decode cX0_colourAlongPairs 60 = .ok (.iload 6, 2) := by decide +kernel
theorem dX0_colourAlongPairs_62 : decode cX0_colourAlongPairs 62 = .ok (.iconst 1, 1) := by decide +kernel
theorem dX0_colourAlongPairs_63 : decode cX0_colourAlongPairs 63 = .ok (.aload_n 0, 1) := by decide +kernel
theorem dX0_colourAlongPairs_64 : decode cX0_colourAlongPairs 64 = .ok (.getfield 26, 3) := by decide +kernel
theorem dX0_colourAlongPairs_67 : decode cX0_colourAlongPairs 67 = .ok (.iload_n 3, 1) := by decide +kernel
theorem dX0_colourAlongPairs_68 : decode cX0_colourAlongPairs 68 = .ok (.iaload, 1) := by decide +kernel
theorem dX0_colourAlongPairs_69 : decode cX0_colourAlongPairs 69 = .ok (.isub, 1) := by decide +kernel
theorem dX0_colourAlongPairs_70 : decode cX0_colourAlongPairs 70 = .ok (.iastore, 1) := by decide +kernel
theorem dX0_colourAlongPairs_71 : decode cX0_colourAlongPairs 71 = .ok (.iload 6, 2) := by decide +kernel
theorem dX0_colourAlongPairs_73 : decode cX0_colourAlongPairs 73 = .ok (.istore_n 3, 1) := by decide +kernel
theorem dX0_colourAlongPairs_74 : decode cX0_colourAlongPairs 74 = .ok (.iload 4, 2) := by decide +kernel
theorem dX0_colourAlongPairs_76 : decode cX0_colourAlongPairs 76 = .ok (.ifCond .ne 7, 3) := by decide +kernel
theorem dX0_colourAlongPairs_79 : decode cX0_colourAlongPairs 79 = .ok (.iconst 1, 1) := by decide +kernel
theorem dX0_colourAlongPairs_80 : decode cX0_colourAlongPairs 80 = .ok (.goto 4, 3) := by decide +kernel
theorem dX0_colourAlongPairs_83 : decode cX0_colourAlongPairs 83 = .ok (.iconst 0, 1) := by decide +kernel
theorem dX0_colourAlongPairs_84 : decode cX0_colourAlongPairs 84 = .ok (.istore 4, 2) := by decide +kernel
theorem dX0_colourAlongPairs_86 : decode cX0_colourAlongPairs 86 = .ok (.iinc 5 1, 3) := by decide +kernel
theorem dX0_colourAlongPairs_89 : decode cX0_colourAlongPairs 89 = .ok (.goto (-81), 3) := by decide +kernel
theorem dX0_colourAlongPairs_92 : decode cX0_colourAlongPairs 92 = .ok (.return_, 1) := by decide +kernel
set_option maxRecDepth 20000 in
theorem ggX0_partnerInFirstOrder_X0_isThing : GoodIn wsX0_partnerInFirstOrder wsX0_isThing := goodIn_r _ [5, 6, 7, 8, 9, 10, 11, 12, 13, 14, 15, 16, 17, 18, 19, 20, 21] (by decide +kernel) (by decide +kernel)
set_option maxRecDepth 20000 in
theorem gX0_partnerInFirstOrder_X0_isThing : GoodIn wsX0_partnerInFirstOrder (wsV RX0 60 RX0 yX0_isThing wsX0_isThing) := goodIn_app (goodIn_of _ (by decide +kernel)) ggX0_partnerInFirstOrder_X0_isThing
theorem dX0_partnerInFirstOrder_0 : decode cX0_partnerInFirstOrder 0 = .ok (.iload_n 1, 1) := by decide +kernel
theorem dX0_partnerInFirstOrder_1 : decode cX0_partnerInFirstOrder 1 = .ok (.iconst 1, 1) := by decide +kernel
theorem dX0_partnerInFirstOrder_2 : decode cX0_partnerInFirstOrder 2 = .ok (.ixor, 1) := by decide +kernel
theorem dX0_partnerInFirstOrder_3 : decode cX0_partnerInFirstOrder 3 = .ok (.istore_n 2, 1) := by decide +kernel
theorem dX0_partnerInFirstOrder_4 : decode cX0_partnerInFirstOrder 4 = .ok (.aload_n 0, 1) := by decide +kernel
theorem dX0_partnerInFirstOrder_5 : decode cX0_partnerInFirstOrder 5 = .ok (.iload_n 2, 1) := by decide +kernel
theorem dX0_partnerInFirstOrder_6 : decode cX0_partnerInFirstOrder 6 = .ok (.invokevirtual 60, 3) := by decide +kernel
theorem dX0_partnerInFirstOrder_9 : decode cX0_partnerInFirstOrder 9 = .ok (.ifCond .eq 7, 3) := by decide +kernel
theorem dX0_partnerInFirstOrder_12 : decode cX0_partnerInFirstOrder 12 = .ok (.iload_n 2, 1) := by decide +kernel
theorem dX0_partnerInFirstOrder_13 : decode cX0_partnerInFirstOrder 13 = .ok (.goto 5, 3) := by decide +kernel
theorem dX0_partnerInFirstOrder_16 : decode cX0_partnerInFirstOrder 16 = .ok (.bipush (-9), 2) := by decide +kernel
theorem dX0_partnerInFirstOrder_18 : decode cX0_partnerInFirstOrder 18 = .ok (.ireturn, 1) := by decide +kernel
set_option maxRecDepth 20000 in
theorem ggX0_partnerInSecondOrder_X0_isThing : GoodIn wsX0_partnerInSecondOrder wsX0_isThing := goodIn_r _ [7, 8, 9, 10, 11, 12, 13, 14, 15, 16, 17, 18, 19, 20, 21, 22, 23] (by decide +kernel) (by decide +kernel)
set_option maxRecDepth 20000 in
theorem gX0_partnerInSecondOrder_X0_isThing : GoodIn wsX0_partnerInSecondOrder (wsV RX0 60 RX0 yX0_isThing wsX0_isThing) := goodIn_app (goodIn_of _ (by decide +kernel)) ggX0_partnerInSecondOrder_X0_isThing
theorem dX0_partnerInSecondOrder_0 : decode cX0_partnerInSecondOrder 0 = .ok (.aload_n 0, 1) := by decide +kernel
theorem dX0_partnerInSecondOrder_1 : decode cX0_partnerInSecondOrder 1 = .ok (.getfield 17, 3) := by decide +kernel
theorem dX0_partnerInSecondOrder_4 : decode cX0_partnerInSecondOrder 4 = .ok (.iload_n 1, 1) := by decide +kernel
theorem dX0_partnerInSecondOrder_5 : decode cX0_partnerInSecondOrder 5 = .ok (.iaload, 1) := by decide +kernel
theorem dX0_partnerInSecondOrder_6 : decode cX0_partnerInSecondOrder 6 = .ok (.iconst 1, 1) := by decide +kernel
theorem dX0_partnerInSecondOrder_7 : decode cX0_partnerInSecondOrder 7 = .ok (.ixor, 1) := by decide +kernel
theorem dX0_partnerInSecondOrder_8 : decode cX0_partnerInSecondOrder 8 = .ok (.istore_n 2, 1) := by decide +kernel
theorem dX0_partnerInSecondOrder_9 : decode cX0_partnerInSecondOrder 9 = .ok (.aload_n 0, 1) := by decide +kernel
theorem dX0_partnerInSecondOrder_10 : decode cX0_partnerInSecondOrder 10 = .ok (.iload_n 2, 1) := by decide +kernel
theorem dX0_partnerInSecondOrder_11 : decode cX0_partnerInSecondOrder 11 = .ok (.invokevirtual 60, 3) := by decide +kernel
theorem dX0_partnerInSecondOrder_14 : decode cX0_partnerInSecondOrder 14 = .ok (.ifCond .eq 12, 3) := by decide +kernel
theorem dX0_partnerInSecondOrder_17 : decode cX0_partnerInSecondOrder 17 = .ok (.aload_n 0, 1) := by decide +kernel
theorem dX0_partnerInSecondOrder_18 : decode cX0_partnerInSecondOrder 18 = .ok (.getfield 13, 3) := by decide +kernel
theorem dX0_partnerInSecondOrder_21 : decode cX0_partnerInSecondOrder 21 = .ok (.iload_n 2, 1) := by decide +kernel
theorem dX0_partnerInSecondOrder_22 : decode cX0_partnerInSecondOrder 22 = .ok (.iaload, 1) := by decide +kernel
theorem dX0_partnerInSecondOrder_23 : decode cX0_partnerInSecondOrder 23 = .ok (.goto 5, 3) := by decide +kernel
theorem dX0_partnerInSecondOrder_26 : decode cX0_partnerInSecondOrder 26 = .ok (.bipush (-9), 2) := by decide +kernel
theorem dX0_partnerInSecondOrder_28 : decode cX0_partnerInSecondOrder 28 = .ok (.ireturn, 1) := by decide +kernel
set_option maxRecDepth 20000 in
theorem ggX0_colourOnComing_X0_isHeld : GoodIn wsX0_colourOnComing wsX0_isHeld := goodIn_r _ [8, 9, 10, 11, 7, 12, 23, 24, 25, 26, 27, 28, 29, 30, 31, 32, 33, 34, 35, 36, 37] (by decide +kernel) (by decide +kernel)
set_option maxRecDepth 20000 in
theorem gX0_colourOnComing_X0_isHeld : GoodIn wsX0_colourOnComing (wsV RX0 87 RX0 yX0_isHeld wsX0_isHeld) := goodIn_app (goodIn_of _ (by decide +kernel)) ggX0_colourOnComing_X0_isHeld
set_option maxRecDepth 20000 in
theorem ggX0_colourOnComing_X0_bitOf : GoodIn wsX0_colourOnComing wsX0_bitOf := goodIn_r _ [12] (by decide +kernel) (by decide +kernel)
set_option maxRecDepth 20000 in
theorem gX0_colourOnComing_X0_bitOf : GoodIn wsX0_colourOnComing (va_wsS RX0 83 yX0_bitOf wsX0_bitOf) := goodIn_app (goodIn_of _ (by decide +kernel)) ggX0_colourOnComing_X0_bitOf
set_option maxRecDepth 20000 in
theorem ggX0_colourOnComing_X0_leaning : GoodIn wsX0_colourOnComing wsX0_leaning := goodIn_r _ [15, 16, 17, 18, 19, 20, 21, 22] (by decide +kernel) (by decide +kernel)
set_option maxRecDepth 20000 in
theorem gX0_colourOnComing_X0_leaning : GoodIn wsX0_colourOnComing (va_wsS RX0 145 yX0_leaning wsX0_leaning) := goodIn_app (goodIn_of _ (by decide +kernel)) ggX0_colourOnComing_X0_leaning
theorem dX0_colourOnComing_0 : decode cX0_colourOnComing 0 = .ok (.aload_n 0, 1) := by decide +kernel
theorem dX0_colourOnComing_1 : decode cX0_colourOnComing 1 = .ok (.iload_n 1, 1) := by decide +kernel
theorem dX0_colourOnComing_2 : decode cX0_colourOnComing 2 = .ok (.invokevirtual 87, 3) := by decide +kernel
theorem dX0_colourOnComing_5 : decode cX0_colourOnComing 5 = .ok (.ifCond .eq 12, 3) := by decide +kernel
theorem dX0_colourOnComing_8 : decode cX0_colourOnComing 8 = .ok (.aload_n 0, 1) := by decide +kernel
theorem dX0_colourOnComing_9 : decode cX0_colourOnComing 9 = .ok (.getfield 23, 3) := by decide +kernel
theorem dX0_colourOnComing_12 : decode cX0_colourOnComing 12 = .ok (.iload_n 1, 1) := by decide +kernel
theorem dX0_colourOnComing_13 : decode cX0_colourOnComing 13 = .ok (.invokestatic 83, 3) := by decide +kernel
theorem dX0_colourOnComing_16 : decode cX0_colourOnComing 16 = .ok (.ireturn, 1) := by decide +kernel
theorem dX0_colourOnComing_17 : decode cX0_colourOnComing 17 = .ok (.iconst 1, 1) := by decide +kernel
theorem dX0_colourOnComing_18 : decode cX0_colourOnComing 18 = .ok (.iload_n 1, 1) := by decide +kernel
theorem dX0_colourOnComing_19 : decode cX0_colourOnComing 19 = .ok (.ishl, 1) := by decide +kernel
theorem dX0_colourOnComing_20 : decode cX0_colourOnComing 20 = .ok (.iconst 1, 1) := by decide +kernel
theorem dX0_colourOnComing_21 : decode cX0_colourOnComing 21 = .ok (.isub, 1) := by decide +kernel
theorem dX0_colourOnComing_22 : decode cX0_colourOnComing 22 = .ok (.istore_n 3, 1) := by decide +kernel
theorem dX0_colourOnComing_23 : decode cX0_colourOnComing 23 = .ok (.iconst 0, 1) := by decide +kernel
theorem dX0_colourOnComing_24 : decode cX0_colourOnComing 24 = .ok (.istore 4, 2) := by decide +kernel
theorem dX0_colourOnComing_26 : decode cX0_colourOnComing 26 = .ok (.iconst 0, 1) := by decide +kernel
theorem dX0_colourOnComing_27 : decode cX0_colourOnComing 27 = .ok (.istore 5, 2) := by decide +kernel
theorem dX0_colourOnComing_29 : decode cX0_colourOnComing 29 = .ok (.iload 5, 2) := by decide +kernel
theorem dX0_colourOnComing_31 : decode cX0_colourOnComing 31 = .ok (.aload_n 0, 1) := by decide +kernel
theorem dX0_colourOnComing_32 : decode cX0_colourOnComing 32 = .ok (.getfield 29, 3) := by decide +kernel
theorem dX0_colourOnComing_35 : decode cX0_colourOnComing 35 = .ok (.if_icmp .ge 42, 3) := by decide +kernel
theorem dX0_colourOnComing_38 : decode cX0_colourOnComing 38 = .ok (.aload_n 0, 1) := by decide +kernel
theorem dX0_colourOnComing_39 : decode cX0_colourOnComing 39 = .ok (.getfield 41, 3) := by decide +kernel
theorem dX0_colourOnComing_42 : decode cX0_colourOnComing 42 = .ok (.iload 5, 2) := by decide +kernel
theorem dX0_colourOnComing_44 : decode cX0_colourOnComing 44 = .ok (.iaload, 1) := by decide +kernel
theorem dX0_colourOnComing_45 : decode cX0_colourOnComing 45 = .ok (.iload_n 1, 1) := by decide +kernel
theorem dX0_colourOnComing_46 : decode cX0_colourOnComing 46 = .ok (.invokestatic 83, 3) := by decide +kernel
theorem dX0_colourOnComing_49 : decode cX0_colourOnComing 49 = .ok (.iconst 1, 1) := by decide +kernel
theorem dX0_colourOnComing_50 : decode cX0_colourOnComing 50 = .ok (.if_icmp .ne 21, 3) := by decide +kernel
theorem dX0_colourOnComing_53 : decode cX0_colourOnComing 53 = .ok (.iload 4, 2) := by decide +kernel
theorem dX0_colourOnComing_55 : decode cX0_colourOnComing 55 = .ok (.aload_n 0, 1) := by decide +kernel
theorem dX0_colourOnComing_56 : decode cX0_colourOnComing 56 = .ok (.getfield 41, 3) := by decide +kernel
theorem dX0_colourOnComing_59 : decode cX0_colourOnComing 59 = .ok (.iload 5, 2) := by decide +kernel
theorem dX0_colourOnComing_61 : decode cX0_colourOnComing 61 = .ok (.iaload, 1) := by decide +kernel
theorem dX0_colourOnComing_62 : decode cX0_colourOnComing 62 = .ok (.iload_n 3, 1) := by decide +kernel
theorem dX0_colourOnComing_63 : decode cX0_colourOnComing 63 = .ok (.iand, 1) := by decide +kernel
theorem dX0_colourOnComing_64 : decode cX0_colourOnComing 64 = .ok (.iload_n 2, 1) := by decide +kernel
theorem dX0_colourOnComing_65 : decode cX0_colourOnComing 65 = .ok (.invokestatic 145, 3) := by decide +kernel
theorem dX0_colourOnComing_68 : decode cX0_colourOnComing 68 = .ok (.iadd, 1) := by decide +kernel
theorem dX0_colourOnComing_69 : decode cX0_colourOnComing 69 = .ok (.istore 4, 2) := by decide +kernel
theorem dX0_colourOnComing_71 : decode cX0_colourOnComing 71 = .ok (.iinc 5 1, 3) := by decide +kernel
theorem dX0_colourOnComing_74 : decode cX0_colourOnComing 74 = .ok (.goto (-45), 3) := by decide +kernel
theorem dX0_colourOnComing_77 : decode cX0_colourOnComing 77 = .ok (.iload 4, 2) := by decide +kernel
theorem dX0_colourOnComing_79 : decode cX0_colourOnComing 79 = .ok (.ifCond .ge 7, 3) := by decide +kernel
theorem dX0_colourOnComing_82 : decode cX0_colourOnComing 82 = .ok (.iconst 1, 1) := by decide +kernel
theorem dX0_colourOnComing_83 : decode cX0_colourOnComing 83 = .ok (.goto 4, 3) := by decide +kernel
theorem dX0_colourOnComing_86 : decode cX0_colourOnComing 86 = .ok (.iconst 0, 1) := by decide +kernel
theorem dX0_colourOnComing_87 : decode cX0_colourOnComing 87 = .ok (.ireturn, 1) := by decide +kernel
set_option maxRecDepth 20000 in
theorem ggX0_step_X0_isStepLength : GoodIn wsX0_step wsX0_isStepLength := goodIn_r _ [7] (by decide +kernel) (by decide +kernel)
set_option maxRecDepth 20000 in
theorem gX0_step_X0_isStepLength : GoodIn wsX0_step (va_wsS RX0 157 yX0_isStepLength wsX0_isStepLength) := goodIn_app (goodIn_of _ (by decide +kernel)) ggX0_step_X0_isStepLength
theorem dX0_step_0 : decode cX0_step 0 = .ok (.iload_n 1, 1) := by decide +kernel
theorem dX0_step_1 : decode cX0_step 1 = .ok (.invokestatic 157, 3) := by decide +kernel
theorem dX0_step_4 : decode cX0_step 4 = .ok (.ifCond .eq 10, 3) := by decide +kernel
theorem dX0_step_7 : decode cX0_step 7 = .ok (.iload_n 2, 1) := by decide +kernel
theorem dX0_step_8 : decode cX0_step 8 = .ok (.invokestatic 157, 3) := by decide +kernel
theorem dX0_step_11 : decode cX0_step 11 = .ok (.ifCond .ne 5, 3) := by decide +kernel
theorem dX0_step_14 : decode cX0_step 14 = .ok (.iconst (-1), 1) := by decide +kernel
theorem dX0_step_15 : decode cX0_step 15 = .ok (.ireturn, 1) := by decide +kernel
theorem dX0_step_16 : decode cX0_step 16 = .ok (.aload_n 0, 1) := by decide +kernel
theorem dX0_step_17 : decode cX0_step 17 = .ok (.getfield 44, 3) := by decide +kernel
theorem dX0_step_20 : decode cX0_step 20 = .ok (.bipush 10, 2) := by decide +kernel
theorem dX0_step_22 : decode cX0_step 22 = .ok (.if_icmp .lt 6, 3) := by decide +kernel
theorem dX0_step_25 : decode cX0_step 25 = .ok (.bipush (-3), 2) := by decide +kernel
theorem dX0_step_27 : decode cX0_step 27 = .ok (.ireturn, 1) := by decide +kernel
theorem dX0_step_28 : decode cX0_step 28 = .ok (.aload_n 0, 1) := by decide +kernel
theorem dX0_step_29 : decode cX0_step 29 = .ok (.getfield 44, 3) := by decide +kernel
theorem dX0_step_32 : decode cX0_step 32 = .ok (.istore_n 3, 1) := by decide +kernel
theorem dX0_step_33 : decode cX0_step 33 = .ok (.aload_n 0, 1) := by decide +kernel
theorem dX0_step_34 : decode cX0_step 34 = .ok (.getfield 47, 3) := by decide +kernel
theorem dX0_step_37 : decode cX0_step 37 = .ok (.iload_n 3, 1) := by decide +kernel
theorem dX0_step_38 : decode cX0_step 38 = .ok (.iload_n 1, 1) := by decide +kernel
theorem dX0_step_39 : decode cX0_step 39 = .ok (.iastore, 1) := by decide +kernel
theorem dX0_step_40 : decode cX0_step 40 = .ok (.aload_n 0, 1) := by decide +kernel
theorem dX0_step_41 : decode cX0_step 41 = .ok (.getfield 50, 3) := by decide +kernel
theorem dX0_step_44 : decode cX0_step 44 = .ok (.iload_n 3, 1) := by decide +kernel
theorem dX0_step_45 : decode cX0_step 45 = .ok (.iload_n 2, 1) := by decide +kernel
theorem dX0_step_46 : decode cX0_step 46 = .ok (.iastore, 1) := by decide +kernel
theorem dX0_step_47 : decode cX0_step 47 = .ok (.aload_n 0, 1) := by decide +kernel
theorem dX0_step_48 : decode cX0_step 48 = .ok (.dup, 1) := by decide +kernel
theorem dX0_step_49 : decode cX0_step 49 = .ok (.getfield 44, 3) := by decide +kernel
theorem dX0_step_52 : decode cX0_step 52 = .ok (.iconst 1, 1) := by decide +kernel
theorem dX0_step_53 : decode cX0_step 53 = .ok (.iadd, 1) := by decide +kernel
theorem dX0_step_54 : decode cX0_step 54 = .ok (.putfield 44, 3) := by decide +kernel
theorem dX0_step_57 : decode cX0_step 57 = .ok (.iload_n 3, 1) := by decide +kernel
theorem dX0_step_58 : decode cX0_step 58 = .ok (.ireturn, 1) := by decide +kernel
theorem dX0_clear_0 : decode cX0_clear 0 = .ok (.aload_n 0, 1) := by decide +kernel
theorem dX0_clear_1 : decode cX0_clear 1 = .ok (.getfield 44, 3) := by decide +kernel
theorem dX0_clear_4 : decode cX0_clear 4 = .ok (.istore_n 1, 1) := by decide +kernel
theorem dX0_clear_5 : decode cX0_clear 5 = .ok (.aload_n 0, 1) := by decide +kernel
theorem dX0_clear_6 : decode cX0_clear 6 = .ok (.iconst 0, 1) := by decide +kernel
theorem dX0_clear_7 : decode cX0_clear 7 = .ok (.putfield 44, 3) := by decide +kernel
theorem dX0_clear_10 : decode cX0_clear 10 = .ok (.iload_n 1, 1) := by decide +kernel
theorem dX0_clear_11 : decode cX0_clear 11 = .ok (.ireturn, 1) := by decide +kernel
set_option maxRecDepth 20000 in
theorem ggX0_stray_X0_signingCount : GoodIn wsX0_stray wsX0_signingCount := goodIn_r _ [5, 6, 26, 27, 28, 29, 30, 31, 32, 33, 34, 35, 36, 37, 38, 39, 40] (by decide +kernel) (by decide +kernel)
set_option maxRecDepth 20000 in
theorem gX0_stray_X0_signingCount : GoodIn wsX0_stray (wsV RX0 160 RX0 yX0_signingCount wsX0_signingCount) := goodIn_app (goodIn_of _ (by decide +kernel)) ggX0_stray_X0_signingCount
set_option maxRecDepth 20000 in
theorem ggX0_stray_X0_strayOf : GoodIn wsX0_stray wsX0_strayOf := goodIn_r _ [10, 6, 11, 12, 13, 14, 15, 16, 17, 18, 4, 19, 20, 21, 22, 23, 24, 25, 26, 27, 28, 29, 30, 31, 32, 33, 34, 35, 36, 37, 38, 39, 40] (by decide +kernel) (by decide +kernel)
set_option maxRecDepth 20000 in
theorem gX0_stray_X0_strayOf : GoodIn wsX0_stray (wsV RX0 163 RX0 yX0_strayOf wsX0_strayOf) := goodIn_app (goodIn_of _ (by decide +kernel)) ggX0_stray_X0_strayOf
theorem dX0_stray_0 : decode cX0_stray 0 = .ok (.iload_n 1, 1) := by decide +kernel
theorem dX0_stray_1 : decode cX0_stray 1 = .ok (.ifCond .lt 19, 3) := by decide +kernel
theorem dX0_stray_4 : decode cX0_stray 4 = .ok (.iload_n 1, 1) := by decide +kernel
theorem dX0_stray_5 : decode cX0_stray 5 = .ok (.aload_n 0, 1) := by decide +kernel
theorem dX0_stray_6 : decode cX0_stray 6 = .ok (.invokevirtual 160, 3) := by decide +kernel
theorem dX0_stray_9 : decode cX0_stray 9 = .ok (.if_icmp .ge 11, 3) := by decide +kernel
theorem dX0_stray_12 : decode cX0_stray 12 = .ok (.aload_n 0, 1) := by decide +kernel
theorem dX0_stray_13 : decode cX0_stray 13 = .ok (.iload_n 1, 1) := by decide +kernel
theorem dX0_stray_14 : decode cX0_stray 14 = .ok (.invokevirtual 163, 3) := by decide +kernel
theorem dX0_stray_17 : decode cX0_stray 17 = .ok (.goto 4, 3) := by decide +kernel
theorem dX0_stray_20 : decode cX0_stray 20 = .ok (.iconst (-1), 1) := by decide +kernel
theorem dX0_stray_21 : decode cX0_stray 21 = .ok (.ireturn, 1) := by decide +kernel
set_option maxRecDepth 20000 in
theorem ggX0_straight_X0_straightest : GoodIn wsX0_straight wsX0_straightest := goodIn_r _ [5, 6, 7, 8, 4, 9, 10, 11, 12, 13, 14, 15, 16, 17, 18, 19, 20, 21, 22, 23, 24, 25, 26, 27, 28, 29, 34, 35, 36, 37, 38, 39, 40, 41, 42, 43, 44, 45, 46, 47, 48] (by decide +kernel) (by decide +kernel)
set_option maxRecDepth 20000 in
theorem gX0_straight_X0_straightest : GoodIn wsX0_straight (wsV RX0 166 RX0 yX0_straightest wsX0_straightest) := goodIn_app (goodIn_of _ (by decide +kernel)) ggX0_straight_X0_straightest
set_option maxRecDepth 20000 in
theorem ggX0_straight_X0_strayOf : GoodIn wsX0_straight wsX0_strayOf := goodIn_r _ [9, 10, 11, 12, 13, 14, 15, 16, 17, 18, 4, 19, 20, 21, 22, 23, 24, 25, 34, 35, 36, 37, 38, 39, 40, 41, 42, 43, 44, 45, 46, 47, 48] (by decide +kernel) (by decide +kernel)
set_option maxRecDepth 20000 in
theorem gX0_straight_X0_strayOf : GoodIn wsX0_straight (wsV RX0 163 RX0 yX0_strayOf wsX0_strayOf) := goodIn_app (goodIn_of _ (by decide +kernel)) ggX0_straight_X0_strayOf
set_option maxRecDepth 20000 in
theorem ggX0_straight_X0_nearest : GoodIn wsX0_straight wsX0_nearest := goodIn_r _ [33, 10, 11, 12, 20, 21, 4, 22, 23, 24, 15, 25, 13, 14, 16, 34, 35, 36, 37, 38, 39, 40, 41, 42, 43, 44, 45, 46, 47, 48] (by decide +kernel) (by decide +kernel)
set_option maxRecDepth 20000 in
theorem gX0_straight_X0_nearest : GoodIn wsX0_straight (wsV RX0 169 RX0 yX0_nearest wsX0_nearest) := goodIn_app (goodIn_of _ (by decide +kernel)) ggX0_straight_X0_nearest
end
section
theorem dX0_straight_0 : decode cX0_straight 0 = .ok (.iload_n 1, 1) := by decide +kernel
theorem dX0_straight_1 : decode cX0_straight 1 = .ok (.tableswitch 46 0 2 #[27, 36, 41], 27) := by decide +kernel
theorem dX0_straight_28 : decode cX0_straight 28 = .ok (.aload_n 0, 1) := by decide +kernel
theorem dX0_straight_29 : decode cX0_straight 29 = .ok (.aload_n 0, 1) := by decide +kernel
theorem dX0_straight_30 : decode cX0_straight 30 = .ok (.invokevirtual 166, 3) := by decide +kernel
theorem dX0_straight_33 : decode cX0_straight 33 = .ok (.invokevirtual 163, 3) := by decide +kernel
theorem dX0_straight_36 : decode cX0_straight 36 = .ok (.ireturn, 1) := by decide +kernel
theorem dX0_straight_37 : decode cX0_straight 37 = .ok (.aload_n 0, 1) := by decide +kernel
theorem dX0_straight_38 : decode cX0_straight 38 = .ok (.invokevirtual 166, 3) := by decide +kernel
theorem dX0_straight_41 : decode cX0_straight 41 = .ok (.ireturn, 1) := by decide +kernel
theorem dX0_straight_42 : decode cX0_straight 42 = .ok (.aload_n 0, 1) := by decide +kernel
theorem dX0_straight_43 : decode cX0_straight 43 = .ok (.invokevirtual 169, 3) := by decide +kernel
theorem dX0_straight_46 : decode cX0_straight 46 = .ok (.ireturn, 1) := by decide +kernel
theorem dX0_straight_47 : decode cX0_straight 47 = .ok (.iconst (-1), 1) := by decide +kernel
theorem dX0_straight_48 : decode cX0_straight 48 = .ok (.ireturn, 1) := by decide +kernel
set_option maxRecDepth 20000 in
theorem ggX0_count_J6_bitCount_0f7a4 : GoodIn wsX0_count wsJ6_bitCount_0f7a4 := goodIn_r _ [8, 9, 10, 11] (by decide +kernel) (by decide +kernel)
set_option maxRecDepth 20000 in
theorem gX0_count_J6_bitCount_0f7a4 : GoodIn wsX0_count (va_wsS RX0 140 yJ6_bitCount_0f7a4 wsJ6_bitCount_0f7a4) := goodIn_app (goodIn_of _ (by decide +kernel)) ggX0_count_J6_bitCount_0f7a4
theorem dX0_count_0 : decode cX0_count 0 = .ok (.iload_n 1, 1) := by decide +kernel
theorem dX0_count_1 : decode cX0_count 1 = .ok (.tableswitch 54 0 3 #[31, 36, 41, 46], 31) := by decide +kernel
theorem dX0_count_32 : decode cX0_count 32 = .ok (.aload_n 0, 1) := by decide +kernel
theorem dX0_count_33 : decode cX0_count 33 = .ok (.getfield 7, 3) := by decide +kernel
theorem dX0_count_36 : decode cX0_count 36 = .ok (.ireturn, 1) := by decide +kernel
theorem dX0_count_37 : decode cX0_count 37 = .ok (.aload_n 0, 1) := by decide +kernel
theorem dX0_count_38 : decode cX0_count 38 = .ok (.getfield 29, 3) := by decide +kernel
theorem dX0_count_41 : decode cX0_count 41 = .ok (.ireturn, 1) := by decide +kernel
theorem dX0_count_42 : decode cX0_count 42 = .ok (.aload_n 0, 1) := by decide +kernel
theorem dX0_count_43 : decode cX0_count 43 = .ok (.getfield 44, 3) := by decide +kernel
theorem dX0_count_46 : decode cX0_count 46 = .ok (.ireturn, 1) := by decide +kernel
theorem dX0_count_47 : decode cX0_count 47 = .ok (.aload_n 0, 1) := by decide +kernel
theorem dX0_count_48 : decode cX0_count 48 = .ok (.getfield 20, 3) := by decide +kernel
theorem dX0_count_51 : decode cX0_count 51 = .ok (.invokestatic 140, 3) := by decide +kernel
theorem dX0_count_54 : decode cX0_count 54 = .ok (.ireturn, 1) := by decide +kernel
theorem dX0_count_55 : decode cX0_count 55 = .ok (.iconst (-1), 1) := by decide +kernel
theorem dX0_count_56 : decode cX0_count 56 = .ok (.ireturn, 1) := by decide +kernel
theorem dX0_trace_0 : decode cX0_trace 0 = .ok (.aload_n 0, 1) := by decide +kernel
theorem dX0_trace_1 : decode cX0_trace 1 = .ok (.getfield 53, 3) := by decide +kernel
theorem dX0_trace_4 : decode cX0_trace 4 = .ok (.lreturn, 1) := by decide +kernel
theorem dX0_isStepLength_0 : decode cX0_isStepLength 0 = .ok (.iload_n 0, 1) := by decide +kernel
theorem dX0_isStepLength_1 : decode cX0_isStepLength 1 = .ok (.bipush (-20), 2) := by decide +kernel
theorem dX0_isStepLength_3 : decode cX0_isStepLength 3 = .ok (.if_icmp .lt 13, 3) := by decide +kernel
theorem dX0_isStepLength_6 : decode cX0_isStepLength 6 = .ok (.iload_n 0, 1) := by decide +kernel
theorem dX0_isStepLength_7 : decode cX0_isStepLength 7 = .ok (.bipush 20, 2) := by decide +kernel
theorem dX0_isStepLength_9 : decode cX0_isStepLength 9 = .ok (.if_icmp .gt 7, 3) := by decide +kernel
theorem dX0_isStepLength_12 : decode cX0_isStepLength 12 = .ok (.iconst 1, 1) := by decide +kernel
theorem dX0_isStepLength_13 : decode cX0_isStepLength 13 = .ok (.goto 4, 3) := by decide +kernel
theorem dX0_isStepLength_16 : decode cX0_isStepLength 16 = .ok (.iconst 0, 1) := by decide +kernel
theorem dX0_isStepLength_17 : decode cX0_isStepLength 17 = .ok (.ireturn, 1) := by decide +kernel
theorem dX0_signingCount_0 : decode cX0_signingCount 0 = .ok (.iconst 1, 1) := by decide +kernel
theorem dX0_signingCount_1 : decode cX0_signingCount 1 = .ok (.aload_n 0, 1) := by decide +kernel
theorem dX0_signingCount_2 : decode cX0_signingCount 2 = .ok (.getfield 44, 3) := by decide +kernel
theorem dX0_signingCount_5 : decode cX0_signingCount 5 = .ok (.ishl, 1) := by decide +kernel
theorem dX0_signingCount_6 : decode cX0_signingCount 6 = .ok (.ireturn, 1) := by decide +kernel
theorem dX0_greaterSize_0 : decode cX0_greaterSize 0 = .ok (.iload_n 0, 1) := by decide +kernel
theorem dX0_greaterSize_1 : decode cX0_greaterSize 1 = .ok (.invokestatic 148, 3) := by decide +kernel
theorem dX0_greaterSize_4 : decode cX0_greaterSize 4 = .ok (.iload_n 1, 1) := by decide +kernel
theorem dX0_greaterSize_5 : decode cX0_greaterSize 5 = .ok (.invokestatic 148, 3) := by decide +kernel
theorem dX0_greaterSize_8 : decode cX0_greaterSize 8 = .ok (.invokestatic 109, 3) := by decide +kernel
theorem dX0_greaterSize_11 : decode cX0_greaterSize 11 = .ok (.ireturn, 1) := by decide +kernel
set_option maxRecDepth 20000 in
theorem ggX0_strayOf_X0_bitOf : GoodIn wsX0_strayOf wsX0_bitOf := goodIn_r _ [11] (by decide +kernel) (by decide +kernel)
set_option maxRecDepth 20000 in
theorem gX0_strayOf_X0_bitOf : GoodIn wsX0_strayOf (va_wsS RX0 83 yX0_bitOf wsX0_bitOf) := goodIn_app (goodIn_of _ (by decide +kernel)) ggX0_strayOf_X0_bitOf
set_option maxRecDepth 20000 in
theorem ggX0_strayOf_X0_greaterSize : GoodIn wsX0_strayOf wsX0_greaterSize := goodIn_r _ [14, 15, 16, 6, 17, 4, 5, 7] (by decide +kernel) (by decide +kernel)
set_option maxRecDepth 20000 in
theorem gX0_strayOf_X0_greaterSize : GoodIn wsX0_strayOf (va_wsS RX0 172 yX0_greaterSize wsX0_greaterSize) := goodIn_app (goodIn_of _ (by decide +kernel)) ggX0_strayOf_X0_greaterSize
theorem dX0_strayOf_0 : decode cX0_strayOf 0 = .ok (.iconst 0, 1) := by decide +kernel
theorem dX0_strayOf_1 : decode cX0_strayOf 1 = .ok (.istore_n 2, 1) := by decide +kernel
theorem dX0_strayOf_2 : decode cX0_strayOf 2 = .ok (.iconst 0, 1) := by decide +kernel
theorem dX0_strayOf_3 : decode cX0_strayOf 3 = .ok (.istore_n 3, 1) := by decide +kernel
theorem dX0_strayOf_4 : decode cX0_strayOf 4 = .ok (.iconst 0, 1) := by decide +kernel
theorem dX0_strayOf_5 : decode cX0_strayOf 5 = .ok (.istore 4, 2) := by decide +kernel
theorem dX0_strayOf_7 : decode cX0_strayOf 7 = .ok (.iconst 0, 1) := by decide +kernel
theorem dX0_strayOf_8 : decode cX0_strayOf 8 = .ok (.istore 5, 2) := by decide +kernel
theorem dX0_strayOf_10 : decode cX0_strayOf 10 = .ok (.iload 5, 2) := by decide +kernel
theorem dX0_strayOf_12 : decode cX0_strayOf 12 = .ok (.aload_n 0, 1) := by decide +kernel
theorem dX0_strayOf_13 : decode cX0_strayOf 13 = .ok (.getfield 44, 3) := by decide +kernel
theorem dX0_strayOf_16 : decode cX0_strayOf 16 = .ok (.if_icmp .ge 63, 3) := by decide +kernel
theorem dX0_strayOf_19 : decode cX0_strayOf 19 = .ok (.iload_n 1, 1) := by decide +kernel
theorem dX0_strayOf_20 : decode cX0_strayOf 20 = .ok (.iload 5, 2) := by decide +kernel
theorem dX0_strayOf_22 : decode cX0_strayOf 22 = .ok (.invokestatic 83, 3) := by decide +kernel
theorem dX0_strayOf_25 : decode cX0_strayOf 25 = .ok (.ifCond .ne 7, 3) := by decide +kernel
theorem dX0_strayOf_28 : decode cX0_strayOf 28 = .ok (.iconst 1, 1) := by decide +kernel
theorem dX0_strayOf_29 : decode cX0_strayOf 29 = .ok (.goto 4, 3) := by decide +kernel
theorem dX0_strayOf_32 : decode cX0_strayOf 32 = .ok (.iconst (-1), 1) := by decide +kernel
theorem dX0_strayOf_33 : decode cX0_strayOf 33 = .ok (.istore 6, 2) := by decide +kernel
theorem dX0_strayOf_35 : decode cX0_strayOf 35 = .ok (.iload_n 2, 1) := by decide +kernel
theorem dX0_strayOf_36 : decode cX0_strayOf 36 = .ok (.iload 6, 2) := by decide +kernel
theorem dX0_strayOf_38 : decode cX0_strayOf 38 = .ok (.aload_n 0, 1) := by decide +kernel
theorem dX0_strayOf_39 : decode cX0_strayOf 39 = .ok (.getfield 47, 3) := by decide +kernel
theorem dX0_strayOf_42 : decode cX0_strayOf 42 = .ok (.iload 5, 2) := by decide +kernel
theorem dX0_strayOf_44 : decode cX0_strayOf 44 = .ok (.iaload, 1) := by decide +kernel
theorem dX0_strayOf_45 : decode cX0_strayOf 45 = .ok (.imul, 1) := by decide +kernel
theorem dX0_strayOf_46 : decode cX0_strayOf 46 = .ok (.iadd, 1) := by decide +kernel
theorem dX0_strayOf_47 : decode cX0_strayOf 47 = .ok (.istore_n 2, 1) := by decide +kernel
theorem dX0_strayOf_48 : decode cX0_strayOf 48 = .ok (.iload_n 3, 1) := by decide +kernel
theorem dX0_strayOf_49 : decode cX0_strayOf 49 = .ok (.iload 6, 2) := by decide +kernel
theorem dX0_strayOf_51 : decode cX0_strayOf 51 = .ok (.aload_n 0, 1) := by decide +kernel
theorem dX0_strayOf_52 : decode cX0_strayOf 52 = .ok (.getfield 50, 3) := by decide +kernel
theorem dX0_strayOf_55 : decode cX0_strayOf 55 = .ok (.iload 5, 2) := by decide +kernel
theorem dX0_strayOf_57 : decode cX0_strayOf 57 = .ok (.iaload, 1) := by decide +kernel
theorem dX0_strayOf_58 : decode cX0_strayOf 58 = .ok (.imul, 1) := by decide +kernel
theorem dX0_strayOf_59 : decode cX0_strayOf 59 = .ok (.iadd, 1) := by decide +kernel
theorem dX0_strayOf_60 : decode cX0_strayOf 60 = .ok (.istore_n 3, 1) := by decide +kernel
theorem dX0_strayOf_61 : decode cX0_strayOf 61 = .ok (.iload 4, 2) := by decide +kernel
theorem dX0_strayOf_63 : decode cX0_strayOf 63 = .ok (.iload_n 2, 1) := by decide +kernel
theorem dX0_strayOf_64 : decode cX0_strayOf 64 = .ok (.iload_n 3, 1) := by decide +kernel
theorem dX0_strayOf_65 : decode cX0_strayOf 65 = .ok (.invokestatic 172, 3) := by decide +kernel
theorem dX0_strayOf_68 : decode cX0_strayOf 68 = .ok (.invokestatic 109, 3) := by decide +kernel
theorem dX0_strayOf_71 : decode cX0_strayOf 71 = .ok (.istore 4, 2) := by decide +kernel
theorem dX0_strayOf_73 : decode cX0_strayOf 73 = .ok (.iinc 5 1, 3) := by decide +kernel
theorem dX0_strayOf_76 : decode cX0_strayOf 76 = .ok (.goto (-66), 3) := by decide +kernel
theorem dX0_strayOf_79 : decode cX0_strayOf 79 = .ok (.iload 4, 2) := by decide +kernel
theorem dX0_strayOf_81 : decode cX0_strayOf 81 = .ok (.ireturn, 1) := by decide +kernel
set_option maxRecDepth 20000 in
theorem ggX0_straightest_X0_strayOf : GoodIn wsX0_straightest wsX0_strayOf := goodIn_r _ [5, 6, 7, 8, 9, 10, 11, 12, 13, 14, 4, 15, 16, 17, 18, 19, 20, 21, 26, 27, 28, 29, 30, 31, 32, 33, 34, 35, 36, 37, 38, 39, 40] (by decide +kernel) (by decide +kernel)
set_option maxRecDepth 20000 in
theorem gX0_straightest_X0_strayOf : GoodIn wsX0_straightest (wsV RX0 163 RX0 yX0_strayOf wsX0_strayOf) := goodIn_app (goodIn_of _ (by decide +kernel)) ggX0_straightest_X0_strayOf
set_option maxRecDepth 20000 in
theorem ggX0_straightest_X0_signingCount : GoodIn wsX0_straightest wsX0_signingCount := goodIn_r _ [25, 6, 26, 27, 28, 29, 30, 31, 32, 33, 34, 35, 36, 37, 38, 39, 40] (by decide +kernel) (by decide +kernel)
set_option maxRecDepth 20000 in
theorem gX0_straightest_X0_signingCount : GoodIn wsX0_straightest (wsV RX0 160 RX0 yX0_signingCount wsX0_signingCount) := goodIn_app (goodIn_of _ (by decide +kernel)) ggX0_straightest_X0_signingCount
theorem dX0_straightest_0 : decode cX0_straightest 0 = .ok (.iconst 0, 1) := by decide +kernel
theorem dX0_straightest_1 : decode cX0_straightest 1 = .ok (.istore_n 1, 1) := by decide +kernel
theorem dX0_straightest_2 : decode cX0_straightest 2 = .ok (.aload_n 0, 1) := by decide +kernel
theorem dX0_straightest_3 : decode cX0_straightest 3 = .ok (.iload_n 1, 1) := by decide +kernel
theorem dX0_straightest_4 : decode cX0_straightest 4 = .ok (.invokevirtual 163, 3) := by decide +kernel
theorem dX0_straightest_7 : decode cX0_straightest 7 = .ok (.istore_n 2, 1) := by decide +kernel
theorem dX0_straightest_8 : decode cX0_straightest 8 = .ok (.iconst 1, 1) := by decide +kernel
theorem dX0_straightest_9 : decode cX0_straightest 9 = .ok (.istore_n 3, 1) := by decide +kernel
theorem dX0_straightest_10 : decode cX0_straightest 10 = .ok (.iload_n 3, 1) := by decide +kernel
theorem dX0_straightest_11 : decode cX0_straightest 11 = .ok (.aload_n 0, 1) := by decide +kernel
theorem dX0_straightest_12 : decode cX0_straightest 12 = .ok (.invokevirtual 160, 3) := by decide +kernel
theorem dX0_straightest_15 : decode cX0_straightest 15 = .ok (.if_icmp .ge 27, 3) := by decide +kernel
theorem dX0_straightest_18 : decode cX0_straightest 18 = .ok (.aload_n 0, 1) := by decide +kernel
theorem dX0_straightest_19 : decode cX0_straightest 19 = .ok (.iload_n 3, 1) := by decide +kernel
theorem dX0_straightest_20 : decode cX0_straightest 20 = .ok (.invokevirtual 163, 3) := by decide +kernel
theorem dX0_straightest_23 : decode cX0_straightest 23 = .ok (.istore 4, 2) := by decide +kernel
theorem dX0_straightest_25 : decode cX0_straightest 25 = .ok (.iload 4, 2) := by decide +kernel
theorem dX0_straightest_27 : decode cX0_straightest 27 = .ok (.iload_n 2, 1) := by decide +kernel
theorem dX0_straightest_28 : decode cX0_straightest 28 = .ok (.if_icmp .ge 8, 3) := by decide +kernel
theorem dX0_straightest_31 : decode cX0_straightest 31 = .ok (.iload 4, 2) := by decide +kernel
theorem dX0_straightest_33 : decode cX0_straightest 33 = .ok (.istore_n 2, 1) := by decide +kernel
theorem dX0_straightest_34 : decode cX0_straightest 34 = .ok (.iload_n 3, 1) := by decide +kernel
theorem dX0_straightest_35 : decode cX0_straightest 35 = .ok (.istore_n 1, 1) := by decide +kernel
theorem dX0_straightest_36 : decode cX0_straightest 36 = .ok (.iinc 3 1, 3) := by decide +kernel
theorem dX0_straightest_39 : decode cX0_straightest 39 = .ok (.goto (-29), 3) := by decide +kernel
theorem dX0_straightest_42 : decode cX0_straightest 42 = .ok (.iload_n 1, 1) := by decide +kernel
theorem dX0_straightest_43 : decode cX0_straightest 43 = .ok (.ireturn, 1) := by decide +kernel
set_option maxRecDepth 20000 in
theorem ggX0_nearest_X0_greaterSize : GoodIn wsX0_nearest wsX0_greaterSize := goodIn_r _ [7, 8, 9, 10, 11, 12, 13, 14] (by decide +kernel) (by decide +kernel)
set_option maxRecDepth 20000 in
theorem gX0_nearest_X0_greaterSize : GoodIn wsX0_nearest (va_wsS RX0 172 yX0_greaterSize wsX0_greaterSize) := goodIn_app (goodIn_of _ (by decide +kernel)) ggX0_nearest_X0_greaterSize
theorem dX0_nearest_0 : decode cX0_nearest 0 = .ok (.iconst 0, 1) := by decide +kernel
theorem dX0_nearest_1 : decode cX0_nearest 1 = .ok (.istore_n 1, 1) := by decide +kernel
theorem dX0_nearest_2 : decode cX0_nearest 2 = .ok (.iconst 0, 1) := by decide +kernel
theorem dX0_nearest_3 : decode cX0_nearest 3 = .ok (.istore_n 2, 1) := by decide +kernel
theorem dX0_nearest_4 : decode cX0_nearest 4 = .ok (.iconst 0, 1) := by decide +kernel
theorem dX0_nearest_5 : decode cX0_nearest 5 = .ok (.istore_n 3, 1) := by decide +kernel
theorem dX0_nearest_6 : decode cX0_nearest 6 = .ok (.iconst 0, 1) := by decide +kernel
theorem dX0_nearest_7 : decode cX0_nearest 7 = .ok (.istore 4, 2) := by decide +kernel
theorem dX0_nearest_9 : decode cX0_nearest 9 = .ok (.iload 4, 2) := by decide +kernel
theorem dX0_nearest_11 : decode cX0_nearest 11 = .ok (.aload_n 0, 1) := by decide +kernel
theorem dX0_nearest_12 : decode cX0_nearest 12 = .ok (.getfield 44, 3) := by decide +kernel
theorem dX0_nearest_15 : decode cX0_nearest 15 = .ok (.if_icmp .ge 93, 3) := by decide +kernel
theorem dX0_nearest_18 : decode cX0_nearest 18 = .ok (.iconst 1, 1) := by decide +kernel
theorem dX0_nearest_19 : decode cX0_nearest 19 = .ok (.istore 5, 2) := by decide +kernel
theorem dX0_nearest_21 : decode cX0_nearest 21 = .ok (.iload_n 1, 1) := by decide +kernel
theorem dX0_nearest_22 : decode cX0_nearest 22 = .ok (.aload_n 0, 1) := by decide +kernel
theorem dX0_nearest_23 : decode cX0_nearest 23 = .ok (.getfield 47, 3) := by decide +kernel
theorem dX0_nearest_26 : decode cX0_nearest 26 = .ok (.iload 4, 2) := by decide +kernel
theorem dX0_nearest_28 : decode cX0_nearest 28 = .ok (.iaload, 1) := by decide +kernel
theorem dX0_nearest_29 : decode cX0_nearest 29 = .ok (.isub, 1) := by decide +kernel
theorem dX0_nearest_30 : decode cX0_nearest 30 = .ok (.iload_n 2, 1) := by decide +kernel
theorem dX0_nearest_31 : decode cX0_nearest 31 = .ok (.aload_n 0, 1) := by decide +kernel
theorem dX0_nearest_32 : decode cX0_nearest 32 = .ok (.getfield 50, 3) := by decide +kernel
theorem dX0_nearest_35 : decode cX0_nearest 35 = .ok (.iload 4, 2) := by decide +kernel
theorem dX0_nearest_37 : decode cX0_nearest 37 = .ok (.iaload, 1) := by decide +kernel
theorem dX0_nearest_38 : decode cX0_nearest 38 = .ok (.isub, 1) := by decide +kernel
theorem dX0_nearest_39 : decode cX0_nearest 39 = .ok (.invokestatic 172, 3) := by decide +kernel
theorem dX0_nearest_42 : decode cX0_nearest 42 = .ok (.iload_n 1, 1) := by decide +kernel
theorem dX0_nearest_43 : decode cX0_nearest 43 = .ok (.aload_n 0, 1) := by decide +kernel
theorem dX0_nearest_44 : decode cX0_nearest 44 = .ok (.getfield 47, 3) := by decide +kernel
theorem dX0_nearest_47 : decode cX0_nearest 47 = .ok (.iload 4, 2) := by decide +kernel
theorem dX0_nearest_49 : decode cX0_nearest 49 = .ok (.iaload, 1) := by decide +kernel
theorem dX0_nearest_50 : decode cX0_nearest 50 = .ok (.iadd, 1) := by decide +kernel
theorem dX0_nearest_51 : decode cX0_nearest 51 = .ok (.iload_n 2, 1) := by decide +kernel
theorem dX0_nearest_52 : decode cX0_nearest 52 = .ok (.aload_n 0, 1) := by decide +kernel
theorem dX0_nearest_53 : decode cX0_nearest 53 = .ok (.getfield 50, 3) := by decide +kernel
theorem dX0_nearest_56 : decode cX0_nearest 56 = .ok (.iload 4, 2) := by decide +kernel
theorem dX0_nearest_58 : decode cX0_nearest 58 = .ok (.iaload, 1) := by decide +kernel
theorem dX0_nearest_59 : decode cX0_nearest 59 = .ok (.iadd, 1) := by decide +kernel
theorem dX0_nearest_60 : decode cX0_nearest 60 = .ok (.invokestatic 172, 3) := by decide +kernel
theorem dX0_nearest_63 : decode cX0_nearest 63 = .ok (.if_icmp .ge 13, 3) := by decide +kernel
theorem dX0_nearest_66 : decode cX0_nearest 66 = .ok (.iconst (-1), 1) := by decide +kernel
theorem dX0_nearest_67 : decode cX0_nearest 67 = .ok (.istore 5, 2) := by decide +kernel
theorem dX0_nearest_69 : decode cX0_nearest 69 = .ok (.iload_n 3, 1) := by decide +kernel
theorem dX0_nearest_70 : decode cX0_nearest 70 = .ok (.iconst 1, 1) := by decide +kernel
theorem dX0_nearest_71 : decode cX0_nearest 71 = .ok (.iload 4, 2) := by decide +kernel
theorem dX0_nearest_73 : decode cX0_nearest 73 = .ok (.ishl, 1) := by decide +kernel
theorem dX0_nearest_74 : decode cX0_nearest 74 = .ok (.ior, 1) := by decide +kernel
theorem dX0_nearest_75 : decode cX0_nearest 75 = .ok (.istore_n 3, 1) := by decide +kernel
theorem dX0_nearest_76 : decode cX0_nearest 76 = .ok (.iload_n 1, 1) := by decide +kernel
theorem dX0_nearest_77 : decode cX0_nearest 77 = .ok (.iload 5, 2) := by decide +kernel
theorem dX0_nearest_79 : decode cX0_nearest 79 = .ok (.aload_n 0, 1) := by decide +kernel
theorem dX0_nearest_80 : decode cX0_nearest 80 = .ok (.getfield 47, 3) := by decide +kernel
theorem dX0_nearest_83 : decode cX0_nearest 83 = .ok (.iload 4, 2) := by decide +kernel
theorem dX0_nearest_85 : decode cX0_nearest 85 = .ok (.iaload, 1) := by decide +kernel
theorem dX0_nearest_86 : decode cX0_nearest 86 = .ok (.imul, 1) := by decide +kernel
theorem dX0_nearest_87 : decode cX0_nearest 87 = .ok (.iadd, 1) := by decide +kernel
theorem dX0_nearest_88 : decode cX0_nearest 88 = .ok (.istore_n 1, 1) := by decide +kernel
theorem dX0_nearest_89 : decode cX0_nearest 89 = .ok (.iload_n 2, 1) := by decide +kernel
theorem dX0_nearest_90 : decode cX0_nearest 90 = .ok (.iload 5, 2) := by decide +kernel
theorem dX0_nearest_92 : decode cX0_nearest 92 = .ok (.aload_n 0, 1) := by decide +kernel
theorem dX0_nearest_93 : decode cX0_nearest 93 = .ok (.getfield 50, 3) := by decide +kernel
theorem dX0_nearest_96 : decode cX0_nearest 96 = .ok (.iload 4, 2) := by decide +kernel
theorem dX0_nearest_98 : decode cX0_nearest 98 = .ok (.iaload, 1) := by decide +kernel
theorem dX0_nearest_99 : decode cX0_nearest 99 = .ok (.imul, 1) := by decide +kernel
theorem dX0_nearest_100 : decode cX0_nearest 100 = .ok (.iadd, 1) := by decide +kernel
theorem dX0_nearest_101 : decode cX0_nearest 101 = .ok (.istore_n 2, 1) := by decide +kernel
theorem dX0_nearest_102 : decode cX0_nearest 102 = .ok (.iinc 4 1, 3) := by decide +kernel
theorem dX0_nearest_105 : decode cX0_nearest 105 = .ok (.goto (-96), 3) := by decide +kernel
theorem dX0_nearest_108 : decode cX0_nearest 108 = .ok (.iload_n 3, 1) := by decide +kernel
theorem dX0_nearest_109 : decode cX0_nearest 109 = .ok (.ireturn, 1) := by decide +kernel
theorem dX1_init_0 : decode cX1_init 0 = .ok (.aload_n 0, 1) := by decide +kernel
theorem dX1_init_1 : decode cX1_init 1 = .ok (.invokespecial 1, 3) := by decide +kernel
theorem dX1_init_4 : decode cX1_init 4 = .ok (.aload_n 0, 1) := by decide +kernel
theorem dX1_init_5 : decode cX1_init 5 = .ok (.iconst 1, 1) := by decide +kernel
theorem dX1_init_6 : decode cX1_init 6 = .ok (.putfield 7, 3) := by decide +kernel
theorem dX1_init_9 : decode cX1_init 9 = .ok (.aload_n 0, 1) := by decide +kernel
theorem dX1_init_10 : decode cX1_init 10 = .ok (.bipush 12, 2) := by decide +kernel
theorem dX1_init_12 : decode cX1_init 12 = .ok (.newarray .int, 2) := by decide +kernel
theorem dX1_init_14 : decode cX1_init 14 = .ok (.dup, 1) := by decide +kernel
theorem dX1_init_15 : decode cX1_init 15 = .ok (.iconst 0, 1) := by decide +kernel
theorem dX1_init_16 : decode cX1_init 16 = .ok (.iconst 0, 1) := by decide +kernel
theorem dX1_init_17 : decode cX1_init 17 = .ok (.iastore, 1) := by decide +kernel
theorem dX1_init_18 : decode cX1_init 18 = .ok (.dup, 1) := by decide +kernel
theorem dX1_init_19 : decode cX1_init 19 = .ok (.iconst 1, 1) := by decide +kernel
theorem dX1_init_20 : decode cX1_init 20 = .ok (.iconst 1, 1) := by decide +kernel
theorem dX1_init_21 : decode cX1_init 21 = .ok (.iastore, 1) := by decide +kernel
theorem dX1_init_22 : decode cX1_init 22 = .ok (.dup, 1) := by decide +kernel
theorem dX1_init_23 : decode cX1_init 23 = .ok (.iconst 2, 1) := by decide +kernel
theorem dX1_init_24 : decode cX1_init 24 = .ok (.iconst 2, 1) := by decide +kernel
theorem dX1_init_25 : decode cX1_init 25 = .ok (.iastore, 1) := by decide +kernel
theorem dX1_init_26 : decode cX1_init 26 = .ok (.dup, 1) := by decide +kernel
theorem dX1_init_27 : decode cX1_init 27 = .ok (.iconst 3, 1) := by decide +kernel
theorem dX1_init_28 : decode cX1_init 28 = .ok (.iconst 3, 1) := by decide +kernel
theorem dX1_init_29 : decode cX1_init 29 = .ok (.iastore, 1) := by decide +kernel
theorem dX1_init_30 : decode cX1_init 30 = .ok (.dup, 1) := by decide +kernel
theorem dX1_init_31 : decode cX1_init 31 = .ok (.iconst 4, 1) := by decide +kernel
theorem dX1_init_32 : decode cX1_init 32 = .ok (.iconst 4, 1) := by decide +kernel
theorem dX1_init_33 : decode cX1_init 33 = .ok (.iastore, 1) := by decide +kernel
theorem dX1_init_34 : decode cX1_init 34 = .ok (.dup, 1) := by decide +kernel
theorem dX1_init_35 : decode cX1_init 35 = .ok (.iconst 5, 1) := by decide +kernel
theorem dX1_init_36 : decode cX1_init 36 = .ok (.iconst 5, 1) := by decide +kernel
theorem dX1_init_37 : decode cX1_init 37 = .ok (.iastore, 1) := by decide +kernel
theorem dX1_init_38 : decode cX1_init 38 = .ok (.dup, 1) := by decide +kernel
theorem dX1_init_39 : decode cX1_init 39 = .ok (.bipush 6, 2) := by decide +kernel
theorem dX1_init_41 : decode cX1_init 41 = .ok (.bipush 6, 2) := by decide +kernel
theorem dX1_init_43 : decode cX1_init 43 = .ok (.iastore, 1) := by decide +kernel
theorem dX1_init_44 : decode cX1_init 44 = .ok (.dup, 1) := by decide +kernel
theorem dX1_init_45 : decode cX1_init 45 = .ok (.bipush 7, 2) := by decide +kernel
theorem dX1_init_47 : decode cX1_init 47 = .ok (.bipush 7, 2) := by decide +kernel
theorem dX1_init_49 : decode cX1_init 49 = .ok (.iastore, 1) := by decide +kernel
theorem dX1_init_50 : decode cX1_init 50 = .ok (.dup, 1) := by decide +kernel
theorem dX1_init_51 : decode cX1_init 51 = .ok (.bipush 8, 2) := by decide +kernel
theorem dX1_init_53 : decode cX1_init 53 = .ok (.bipush 8, 2) := by decide +kernel
theorem dX1_init_55 : decode cX1_init 55 = .ok (.iastore, 1) := by decide +kernel
theorem dX1_init_56 : decode cX1_init 56 = .ok (.dup, 1) := by decide +kernel
theorem dX1_init_57 : decode cX1_init 57 = .ok (.bipush 9, 2) := by decide +kernel
theorem dX1_init_59 : decode cX1_init 59 = .ok (.bipush 9, 2) := by decide +kernel
theorem dX1_init_61 : decode cX1_init 61 = .ok (.iastore, 1) := by decide +kernel
theorem dX1_init_62 : decode cX1_init 62 = .ok (.dup, 1) := by decide +kernel
theorem dX1_init_63 : decode cX1_init 63 = .ok (.bipush 10, 2) := by decide +kernel
theorem dX1_init_65 : decode cX1_init 65 = .ok (.bipush 10, 2) := by decide +kernel
theorem dX1_init_67 : decode cX1_init 67 = .ok (.iastore, 1) := by decide +kernel
theorem dX1_init_68 : decode cX1_init 68 = .ok (.dup, 1) := by decide +kernel
theorem dX1_init_69 : decode cX1_init 69 = .ok (.bipush 11, 2) := by decide +kernel
theorem dX1_init_71 : decode cX1_init 71 = .ok (.bipush 11, 2) := by decide +kernel
theorem dX1_init_73 : decode cX1_init 73 = .ok (.iastore, 1) := by decide +kernel
theorem dX1_init_74 : decode cX1_init 74 = .ok (.putfield 13, 3) := by decide +kernel
theorem dX1_init_77 : decode cX1_init 77 = .ok (.aload_n 0, 1) := by decide +kernel
theorem dX1_init_78 : decode cX1_init 78 = .ok (.bipush 12, 2) := by decide +kernel
theorem dX1_init_80 : decode cX1_init 80 = .ok (.newarray .int, 2) := by decide +kernel
theorem dX1_init_82 : decode cX1_init 82 = .ok (.dup, 1) := by decide +kernel
theorem dX1_init_83 : decode cX1_init 83 = .ok (.iconst 0, 1) := by decide +kernel
theorem dX1_init_84 : decode cX1_init 84 = .ok (.iconst (-1), 1) := by decide +kernel
theorem dX1_init_85 : decode cX1_init 85 = .ok (.iastore, 1) := by decide +kernel
theorem dX1_init_86 : decode cX1_init 86 = .ok (.dup, 1) := by decide +kernel
theorem dX1_init_87 : decode cX1_init 87 = .ok (.iconst 1, 1) := by decide +kernel
theorem dX1_init_88 : decode cX1_init 88 = .ok (.iconst (-1), 1) := by decide +kernel
theorem dX1_init_89 : decode cX1_init 89 = .ok (.iastore, 1) := by decide +kernel
theorem dX1_init_90 : decode cX1_init 90 = .ok (.dup, 1) := by decide +kernel
theorem dX1_init_91 : decode cX1_init 91 = .ok (.iconst 2, 1) := by decide +kernel
theorem dX1_init_92 : decode cX1_init 92 = .ok (.iconst (-1), 1) := by decide +kernel
theorem dX1_init_93 : decode cX1_init 93 = .ok (.iastore, 1) := by decide +kernel
theorem dX1_init_94 : decode cX1_init 94 = .ok (.dup, 1) := by decide +kernel
theorem dX1_init_95 : decode cX1_init 95 = .ok (.iconst 3, 1) := by decide +kernel
theorem dX1_init_96 : decode cX1_init 96 = .ok (.iconst (-1), 1) := by decide +kernel
theorem dX1_init_97 : decode cX1_init 97 = .ok (.iastore, 1) := by decide +kernel
theorem dX1_init_98 : decode cX1_init 98 = .ok (.dup, 1) := by decide +kernel
theorem dX1_init_99 : decode cX1_init 99 = .ok (.iconst 4, 1) := by decide +kernel
theorem dX1_init_100 : decode cX1_init 100 = .ok (.iconst (-1), 1) := by decide +kernel
theorem dX1_init_101 : decode cX1_init 101 = .ok (.iastore, 1) := by decide +kernel
theorem dX1_init_102 : decode cX1_init 102 = .ok (.dup, 1) := by decide +kernel
theorem dX1_init_103 : decode cX1_init 103 = .ok (.iconst 5, 1) := by decide +kernel
theorem dX1_init_104 : decode cX1_init 104 = .ok (.iconst (-1), 1) := by decide +kernel
theorem dX1_init_105 : decode cX1_init 105 = .ok (.iastore, 1) := by decide +kernel
theorem dX1_init_106 : decode cX1_init 106 = .ok (.dup, 1) := by decide +kernel
theorem dX1_init_107 : decode cX1_init 107 = .ok (.bipush 6, 2) := by decide +kernel
theorem dX1_init_109 : decode cX1_init 109 = .ok (.iconst (-1), 1) := by decide +kernel
theorem dX1_init_110 : decode cX1_init 110 = .ok (.iastore, 1) := by decide +kernel
theorem dX1_init_111 : decode cX1_init 111 = .ok (.dup, 1) := by decide +kernel
theorem dX1_init_112 : decode cX1_init 112 = .ok (.bipush 7, 2) := by decide +kernel
theorem dX1_init_114 : decode cX1_init 114 = .ok (.iconst (-1), 1) := by decide +kernel
theorem dX1_init_115 : decode cX1_init 115 = .ok (.iastore, 1) := by decide +kernel
theorem dX1_init_116 : decode cX1_init 116 = .ok (.dup, 1) := by decide +kernel
theorem dX1_init_117 : decode cX1_init 117 = .ok (.bipush 8, 2) := by decide +kernel
theorem dX1_init_119 : decode cX1_init 119 = .ok (.iconst (-1), 1) := by decide +kernel
theorem dX1_init_120 : decode cX1_init 120 = .ok (.iastore, 1) := by decide +kernel
theorem dX1_init_121 : decode cX1_init 121 = .ok (.dup, 1) := by decide +kernel
theorem dX1_init_122 : decode cX1_init 122 = .ok (.bipush 9, 2) := by decide +kernel
theorem dX1_init_124 : decode cX1_init 124 = .ok (.iconst (-1), 1) := by decide +kernel
theorem dX1_init_125 : decode cX1_init 125 = .ok (.iastore, 1) := by decide +kernel
theorem dX1_init_126 : decode cX1_init 126 = .ok (.dup, 1) := by decide +kernel
theorem dX1_init_127 : decode cX1_init 127 = .ok (.bipush 10, 2) := by decide +kernel
theorem dX1_init_129 : decode cX1_init 129 = .ok (.iconst (-1), 1) := by decide +kernel
theorem dX1_init_130 : decode cX1_init 130 = .ok (.iastore, 1) := by decide +kernel
theorem dX1_init_131 : decode cX1_init 131 = .ok (.dup, 1) := by decide +kernel
theorem dX1_init_132 : decode cX1_init 132 = .ok (.bipush 11, 2) := by decide +kernel
theorem dX1_init_134 : decode cX1_init 134 = .ok (.iconst (-1), 1) := by decide +kernel
theorem dX1_init_135 : decode cX1_init 135 = .ok (.iastore, 1) := by decide +kernel
theorem dX1_init_136 : decode cX1_init 136 = .ok (.putfield 17, 3) := by decide +kernel
theorem dX1_init_139 : decode cX1_init 139 = .ok (.aload_n 0, 1) := by decide +kernel
theorem dX1_init_140 : decode cX1_init 140 = .ok (.bipush 10, 2) := by decide +kernel
theorem dX1_init_142 : decode cX1_init 142 = .ok (.newarray .int, 2) := by decide +kernel
theorem dX1_init_144 : decode cX1_init 144 = .ok (.putfield 20, 3) := by decide +kernel
theorem dX1_init_147 : decode cX1_init 147 = .ok (.aload_n 0, 1) := by decide +kernel
theorem dX1_init_148 : decode cX1_init 148 = .ok (.bipush 10, 2) := by decide +kernel
theorem dX1_init_150 : decode cX1_init 150 = .ok (.newarray .int, 2) := by decide +kernel
theorem dX1_init_152 : decode cX1_init 152 = .ok (.putfield 23, 3) := by decide +kernel
theorem dX1_init_155 : decode cX1_init 155 = .ok (.aload_n 0, 1) := by decide +kernel
theorem dX1_init_156 : decode cX1_init 156 = .ok (.bipush 10, 2) := by decide +kernel
theorem dX1_init_158 : decode cX1_init 158 = .ok (.newarray .int, 2) := by decide +kernel
theorem dX1_init_160 : decode cX1_init 160 = .ok (.putfield 26, 3) := by decide +kernel
theorem dX1_init_163 : decode cX1_init 163 = .ok (.aload_n 0, 1) := by decide +kernel
theorem dX1_init_164 : decode cX1_init 164 = .ok (.bipush 10, 2) := by decide +kernel
theorem dX1_init_166 : decode cX1_init 166 = .ok (.newarray .int, 2) := by decide +kernel
theorem dX1_init_168 : decode cX1_init 168 = .ok (.putfield 29, 3) := by decide +kernel
theorem dX1_init_171 : decode cX1_init 171 = .ok (.aload_n 0, 1) := by decide +kernel
theorem dX1_init_172 : decode cX1_init 172 = .ok (.bipush 10, 2) := by decide +kernel
theorem dX1_init_174 : decode cX1_init 174 = .ok (.newarray .int, 2) := by decide +kernel
theorem dX1_init_176 : decode cX1_init 176 = .ok (.putfield 32, 3) := by decide +kernel
theorem dX1_init_179 : decode cX1_init 179 = .ok (.aload_n 0, 1) := by decide +kernel
theorem dX1_init_180 : decode cX1_init 180 = .ok (.bipush 10, 2) := by decide +kernel
theorem dX1_init_182 : decode cX1_init 182 = .ok (.newarray .int, 2) := by decide +kernel
theorem dX1_init_184 : decode cX1_init 184 = .ok (.putfield 35, 3) := by decide +kernel
theorem dX1_init_187 : decode cX1_init 187 = .ok (.aload_n 0, 1) := by decide +kernel
theorem dX1_init_188 : decode cX1_init 188 = .ok (.bipush 12, 2) := by decide +kernel
theorem dX1_init_190 : decode cX1_init 190 = .ok (.newarray .int, 2) := by decide +kernel
theorem dX1_init_192 : decode cX1_init 192 = .ok (.putfield 38, 3) := by decide +kernel
theorem dX1_init_195 : decode cX1_init 195 = .ok (.aload_n 0, 1) := by decide +kernel
theorem dX1_init_196 : decode cX1_init 196 = .ok (.iconst 0, 1) := by decide +kernel
theorem dX1_init_197 : decode cX1_init 197 = .ok (.putfield 41, 3) := by decide +kernel
theorem dX1_init_200 : decode cX1_init 200 = .ok (.return_, 1) := by decide +kernel
theorem dX1_in_0 : decode cX1_in 0 = .ok (.iload_n 0, 1) := by decide +kernel
theorem dX1_in_1 : decode cX1_in 1 = .ok (.iload_n 1, 1) := by decide +kernel
theorem dX1_in_2 : decode cX1_in 2 = .ok (.if_icmp .lt 12, 3) := by decide +kernel
theorem dX1_in_5 : decode cX1_in 5 = .ok (.iload_n 0, 1) := by decide +kernel
theorem dX1_in_6 : decode cX1_in 6 = .ok (.iload_n 2, 1) := by decide +kernel
theorem dX1_in_7 : decode cX1_in 7 = .ok (.if_icmp .gt 7, 3) := by decide +kernel
theorem dX1_in_10 : decode cX1_in 10 = .ok (.iconst 1, 1) := by decide +kernel
theorem dX1_in_11 : decode cX1_in 11 = .ok (.goto 4, 3) := by decide +kernel
theorem dX1_in_14 : decode cX1_in 14 = .ok (.iconst 0, 1) := by decide +kernel
theorem dX1_in_15 : decode cX1_in 15 = .ok (.ireturn, 1) := by decide +kernel
set_option maxRecDepth 20000 in
theorem ggX1_isThing_X1_in : GoodIn wsX1_isThing wsX1_in := goodIn_r _ [5] (by decide +kernel) (by decide +kernel)
set_option maxRecDepth 20000 in
theorem gX1_isThing_X1_in : GoodIn wsX1_isThing (va_wsS RX1 44 yX1_in wsX1_in) := goodIn_app (goodIn_of _ (by decide +kernel)) ggX1_isThing_X1_in
theorem dX1_isThing_0 : decode cX1_isThing 0 = .ok (.iload_n 1, 1) := by decide +kernel
theorem dX1_isThing_1 : decode cX1_isThing 1 = .ok (.iconst 0, 1) := by decide +kernel
theorem dX1_isThing_2 : decode cX1_isThing 2 = .ok (.aload_n 0, 1) := by decide +kernel
theorem dX1_isThing_3 : decode cX1_isThing 3 = .ok (.getfield 7, 3) := by decide +kernel
theorem dX1_isThing_6 : decode cX1_isThing 6 = .ok (.iconst 1, 1) := by decide +kernel
theorem dX1_isThing_7 : decode cX1_isThing 7 = .ok (.isub, 1) := by decide +kernel
theorem dX1_isThing_8 : decode cX1_isThing 8 = .ok (.invokestatic 44, 3) := by decide +kernel
theorem dX1_isThing_11 : decode cX1_isThing 11 = .ok (.ireturn, 1) := by decide +kernel
set_option maxRecDepth 20000 in
theorem ggX1_things_X1_in : GoodIn wsX1_things wsX1_in := goodIn_r _ [8] (by decide +kernel) (by decide +kernel)
set_option maxRecDepth 20000 in
theorem gX1_things_X1_in : GoodIn wsX1_things (va_wsS RX1 44 yX1_in wsX1_in) := goodIn_app (goodIn_of _ (by decide +kernel)) ggX1_things_X1_in
theorem dX1_things_0 : decode cX1_things 0 = .ok (.iload_n 1, 1) := by decide +kernel
theorem dX1_things_1 : decode cX1_things 1 = .ok (.iconst 1, 1) := by decide +kernel
theorem dX1_things_2 : decode cX1_things 2 = .ok (.bipush 12, 2) := by decide +kernel
theorem dX1_things_4 : decode cX1_things 4 = .ok (.invokestatic 44, 3) := by decide +kernel
theorem dX1_things_7 : decode cX1_things 7 = .ok (.ifCond .ne 5, 3) := by decide +kernel
theorem dX1_things_10 : decode cX1_things 10 = .ok (.iconst (-1), 1) := by decide +kernel
theorem dX1_things_11 : decode cX1_things 11 = .ok (.ireturn, 1) := by decide +kernel
theorem dX1_things_12 : decode cX1_things 12 = .ok (.aload_n 0, 1) := by decide +kernel
theorem dX1_things_13 : decode cX1_things 13 = .ok (.getfield 7, 3) := by decide +kernel
theorem dX1_things_16 : decode cX1_things 16 = .ok (.istore_n 2, 1) := by decide +kernel
theorem dX1_things_17 : decode cX1_things 17 = .ok (.aload_n 0, 1) := by decide +kernel
theorem dX1_things_18 : decode cX1_things 18 = .ok (.iload_n 1, 1) := by decide +kernel
theorem dX1_things_19 : decode cX1_things 19 = .ok (.putfield 7, 3) := by decide +kernel
theorem dX1_things_22 : decode cX1_things 22 = .ok (.aload_n 0, 1) := by decide +kernel
theorem dX1_things_23 : decode cX1_things 23 = .ok (.iconst 0, 1) := by decide +kernel
theorem dX1_things_24 : decode cX1_things 24 = .ok (.putfield 41, 3) := by decide +kernel
theorem dX1_things_27 : decode cX1_things 27 = .ok (.iconst 0, 1) := by decide +kernel
theorem dX1_things_28 : decode cX1_things 28 = .ok (.istore_n 3, 1) := by decide +kernel
theorem dX1_things_29 : decode cX1_things 29 = .ok (.iload_n 3, 1) := by decide +kernel
theorem dX1_things_30 : decode cX1_things 30 = .ok (.bipush 12, 2) := by decide +kernel
theorem dX1_things_32 : decode cX1_things 32 = .ok (.if_icmp .ge 23, 3) := by decide +kernel
theorem dX1_things_35 : decode cX1_things 35 = .ok (.aload_n 0, 1) := by decide +kernel
theorem dX1_things_36 : decode cX1_things 36 = .ok (.getfield 13, 3) := by decide +kernel
theorem dX1_things_39 : decode cX1_things 39 = .ok (.iload_n 3, 1) := by decide +kernel
theorem dX1_things_40 : decode cX1_things 40 = .ok (.iload_n 3, 1) := by decide +kernel
theorem dX1_things_41 : decode cX1_things 41 = .ok (.iastore, 1) := by decide +kernel
theorem dX1_things_42 : decode cX1_things 42 = .ok (.aload_n 0, 1) := by decide +kernel
theorem dX1_things_43 : decode cX1_things 43 = .ok (.getfield 17, 3) := by decide +kernel
theorem dX1_things_46 : decode cX1_things 46 = .ok (.iload_n 3, 1) := by decide +kernel
theorem dX1_things_47 : decode cX1_things 47 = .ok (.iconst (-1), 1) := by decide +kernel
theorem dX1_things_48 : decode cX1_things 48 = .ok (.iastore, 1) := by decide +kernel
theorem dX1_things_49 : decode cX1_things 49 = .ok (.iinc 3 1, 3) := by decide +kernel
theorem dX1_things_52 : decode cX1_things 52 = .ok (.goto (-23), 3) := by decide +kernel
theorem dX1_things_55 : decode cX1_things 55 = .ok (.iload_n 2, 1) := by decide +kernel
theorem dX1_things_56 : decode cX1_things 56 = .ok (.ireturn, 1) := by decide +kernel
set_option maxRecDepth 20000 in
theorem ggX1_swap_X1_isThing : GoodIn wsX1_swap wsX1_isThing := goodIn_r _ [6, 7, 8, 9, 5, 10, 11, 12, 13, 14, 15, 16, 17, 18, 19, 20, 21, 22, 23, 24, 25, 26] (by decide +kernel) (by decide +kernel)
set_option maxRecDepth 20000 in
theorem gX1_swap_X1_isThing : GoodIn wsX1_swap (wsV RX1 48 RX1 yX1_isThing wsX1_isThing) := goodIn_app (goodIn_of _ (by decide +kernel)) ggX1_swap_X1_isThing
theorem dX1_swap_0 : decode cX1_swap 0 = .ok (.aload_n 0, 1) := by decide +kernel
theorem dX1_swap_1 : decode cX1_swap 1 = .ok (.iload_n 1, 1) := by decide +kernel
theorem dX1_swap_2 : decode cX1_swap 2 = .ok (.invokevirtual 48, 3) := by decide +kernel
theorem dX1_swap_5 : decode cX1_swap 5 = .ok (.ifCond .eq 11, 3) := by decide +kernel
theorem dX1_swap_8 : decode cX1_swap 8 = .ok (.aload_n 0, 1) := by decide +kernel
theorem dX1_swap_9 : decode cX1_swap 9 = .ok (.iload_n 2, 1) := by decide +kernel
theorem dX1_swap_10 : decode cX1_swap 10 = .ok (.invokevirtual 48, 3) := by decide +kernel
theorem dX1_swap_13 : decode cX1_swap 13 = .ok (.ifCond .ne 5, 3) := by decide +kernel
theorem dX1_swap_16 : decode cX1_swap 16 = .ok (.iconst (-1), 1) := by decide +kernel
theorem dX1_swap_17 : decode cX1_swap 17 = .ok (.ireturn, 1) := by decide +kernel
theorem dX1_swap_18 : decode cX1_swap 18 = .ok (.aload_n 0, 1) := by decide +kernel
theorem dX1_swap_19 : decode cX1_swap 19 = .ok (.getfield 13, 3) := by decide +kernel
theorem dX1_swap_22 : decode cX1_swap 22 = .ok (.iload_n 1, 1) := by decide +kernel
theorem dX1_swap_23 : decode cX1_swap 23 = .ok (.iaload, 1) := by decide +kernel
theorem dX1_swap_24 : decode cX1_swap 24 = .ok (.istore_n 3, 1) := by decide +kernel
theorem dX1_swap_25 : decode cX1_swap 25 = .ok (.aload_n 0, 1) := by decide +kernel
theorem dX1_swap_26 : decode cX1_swap 26 = .ok (.getfield 13, 3) := by decide +kernel
theorem dX1_swap_29 : decode cX1_swap 29 = .ok (.iload_n 1, 1) := by decide +kernel
theorem dX1_swap_30 : decode cX1_swap 30 = .ok (.aload_n 0, 1) := by decide +kernel
theorem dX1_swap_31 : decode cX1_swap 31 = .ok (.getfield 13, 3) := by decide +kernel
theorem dX1_swap_34 : decode cX1_swap 34 = .ok (.iload_n 2, 1) := by decide +kernel
theorem dX1_swap_35 : decode cX1_swap 35 = .ok (.iaload, 1) := by decide +kernel
theorem dX1_swap_36 : decode cX1_swap 36 = .ok (.iastore, 1) := by decide +kernel
theorem dX1_swap_37 : decode cX1_swap 37 = .ok (.aload_n 0, 1) := by decide +kernel
theorem dX1_swap_38 : decode cX1_swap 38 = .ok (.getfield 13, 3) := by decide +kernel
theorem dX1_swap_41 : decode cX1_swap 41 = .ok (.iload_n 2, 1) := by decide +kernel
theorem dX1_swap_42 : decode cX1_swap 42 = .ok (.iload_n 3, 1) := by decide +kernel
theorem dX1_swap_43 : decode cX1_swap 43 = .ok (.iastore, 1) := by decide +kernel
theorem dX1_swap_44 : decode cX1_swap 44 = .ok (.iconst 1, 1) := by decide +kernel
theorem dX1_swap_45 : decode cX1_swap 45 = .ok (.ireturn, 1) := by decide +kernel
set_option maxRecDepth 20000 in
theorem ggX1_second_X1_isThing : GoodIn wsX1_second wsX1_isThing := goodIn_r _ [6, 7, 8, 9, 5, 10, 11, 12, 13, 14, 15, 16, 17, 18, 19, 20, 21, 22, 23, 24, 25, 26] (by decide +kernel) (by decide +kernel)
set_option maxRecDepth 20000 in
theorem gX1_second_X1_isThing : GoodIn wsX1_second (wsV RX1 48 RX1 yX1_isThing wsX1_isThing) := goodIn_app (goodIn_of _ (by decide +kernel)) ggX1_second_X1_isThing
theorem dX1_second_0 : decode cX1_second 0 = .ok (.aload_n 0, 1) := by decide +kernel
theorem dX1_second_1 : decode cX1_second 1 = .ok (.iload_n 1, 1) := by decide +kernel
theorem dX1_second_2 : decode cX1_second 2 = .ok (.invokevirtual 48, 3) := by decide +kernel
theorem dX1_second_5 : decode cX1_second 5 = .ok (.ifCond .eq 12, 3) := by decide +kernel
theorem dX1_second_8 : decode cX1_second 8 = .ok (.aload_n 0, 1) := by decide +kernel
theorem dX1_second_9 : decode cX1_second 9 = .ok (.getfield 13, 3) := by decide +kernel
theorem dX1_second_12 : decode cX1_second 12 = .ok (.iload_n 1, 1) := by decide +kernel
theorem dX1_second_13 : decode cX1_second 13 = .ok (.iaload, 1) := by decide +kernel
theorem dX1_second_14 : decode cX1_second 14 = .ok (.goto 4, 3) := by decide +kernel
theorem dX1_second_17 : decode cX1_second 17 = .ok (.iconst (-1), 1) := by decide +kernel
theorem dX1_second_18 : decode cX1_second 18 = .ok (.ireturn, 1) := by decide +kernel
set_option maxRecDepth 20000 in
theorem ggX1_isWell_X1_in : GoodIn wsX1_isWell wsX1_in := goodIn_r _ [5] (by decide +kernel) (by decide +kernel)
set_option maxRecDepth 20000 in
theorem gX1_isWell_X1_in : GoodIn wsX1_isWell (va_wsS RX1 44 yX1_in wsX1_in) := goodIn_app (goodIn_of _ (by decide +kernel)) ggX1_isWell_X1_in
set_option maxRecDepth 20000 in
theorem ggX1_isWell_X1_isThing : GoodIn wsX1_isWell wsX1_isThing := goodIn_r _ [9, 1, 2, 3, 4, 5, 10, 11, 12, 13, 14, 15, 16, 17, 18, 19, 20, 21, 22, 23, 24, 25] (by decide +kernel) (by decide +kernel)
set_option maxRecDepth 20000 in
theorem gX1_isWell_X1_isThing : GoodIn wsX1_isWell (wsV RX1 48 RX1 yX1_isThing wsX1_isThing) := goodIn_app (goodIn_of _ (by decide +kernel)) ggX1_isWell_X1_isThing
theorem dX1_isWell_0 : decode cX1_isWell 0 = .ok (.iload_n 1, 1) := by decide +kernel
theorem dX1_isWell_1 : decode cX1_isWell 1 = .ok (.ifCond .ne 17, 3) := by decide +kernel
theorem dX1_isWell_4 : decode cX1_isWell 4 = .ok (.iload_n 2, 1) := by decide +kernel
theorem dX1_isWell_5 : decode cX1_isWell 5 = .ok (.iconst 0, 1) := by decide +kernel
theorem dX1_isWell_6 : decode cX1_isWell 6 = .ok (.iconst 1, 1) := by decide +kernel
theorem dX1_isWell_7 : decode cX1_isWell 7 = .ok (.aload_n 0, 1) := by decide +kernel
theorem dX1_isWell_8 : decode cX1_isWell 8 = .ok (.getfield 7, 3) := by decide +kernel
theorem dX1_isWell_11 : decode cX1_isWell 11 = .ok (.ishl, 1) := by decide +kernel
theorem dX1_isWell_12 : decode cX1_isWell 12 = .ok (.iconst 1, 1) := by decide +kernel
theorem dX1_isWell_13 : decode cX1_isWell 13 = .ok (.isub, 1) := by decide +kernel
theorem dX1_isWell_14 : decode cX1_isWell 14 = .ok (.invokestatic 44, 3) := by decide +kernel
theorem dX1_isWell_17 : decode cX1_isWell 17 = .ok (.ireturn, 1) := by decide +kernel
theorem dX1_isWell_18 : decode cX1_isWell 18 = .ok (.iload_n 1, 1) := by decide +kernel
theorem dX1_isWell_19 : decode cX1_isWell 19 = .ok (.iconst 1, 1) := by decide +kernel
theorem dX1_isWell_20 : decode cX1_isWell 20 = .ok (.if_icmp .eq 8, 3) := by decide +kernel
theorem dX1_isWell_23 : decode cX1_isWell 23 = .ok (.iload_n 1, 1) := by decide +kernel
theorem dX1_isWell_24 : decode cX1_isWell 24 = .ok (.iconst 2, 1) := by decide +kernel
theorem dX1_isWell_25 : decode cX1_isWell 25 = .ok (.if_icmp .ne 30, 3) := by decide +kernel
theorem dX1_isWell_28 : decode cX1_isWell 28 = .ok (.aload_n 0, 1) := by decide +kernel
theorem dX1_isWell_29 : decode cX1_isWell 29 = .ok (.iload_n 2, 1) := by decide +kernel
theorem dX1_isWell_30 : decode cX1_isWell 30 = .ok (.invokevirtual 48, 3) := by decide +kernel
theorem dX1_isWell_33 : decode cX1_isWell 33 = .ok (.ifCond .eq 20, 3) := by decide +kernel
theorem dX1_isWell_36 : decode cX1_isWell 36 = .ok (.aload_n 0, 1) := by decide +kernel
theorem dX1_isWell_37 : decode cX1_isWell 37 = .ok (.iload_n 3, 1) := by decide +kernel
theorem dX1_isWell_38 : decode cX1_isWell 38 = .ok (.invokevirtual 48, 3) := by decide +kernel
theorem dX1_isWell_41 : decode cX1_isWell 41 = .ok (.ifCond .eq 12, 3) := by decide +kernel
theorem dX1_isWell_44 : decode cX1_isWell 44 = .ok (.iload_n 2, 1) := by decide +kernel
theorem dX1_isWell_45 : decode cX1_isWell 45 = .ok (.iload_n 3, 1) := by decide +kernel
theorem dX1_isWell_46 : decode cX1_isWell 46 = .ok (.if_icmp .gt 7, 3) := by decide +kernel
theorem dX1_isWell_49 : decode cX1_isWell 49 = .ok (.iconst 1, 1) := by decide +kernel
theorem dX1_isWell_50 : decode cX1_isWell 50 = .ok (.goto 4, 3) := by decide +kernel
theorem dX1_isWell_53 : decode cX1_isWell 53 = .ok (.iconst 0, 1) := by decide +kernel
theorem dX1_isWell_54 : decode cX1_isWell 54 = .ok (.ireturn, 1) := by decide +kernel
theorem dX1_isWell_55 : decode cX1_isWell 55 = .ok (.iload_n 1, 1) := by decide +kernel
theorem dX1_isWell_56 : decode cX1_isWell 56 = .ok (.iconst 3, 1) := by decide +kernel
theorem dX1_isWell_57 : decode cX1_isWell 57 = .ok (.if_icmp .ne 25, 3) := by decide +kernel
theorem dX1_isWell_60 : decode cX1_isWell 60 = .ok (.aload_n 0, 1) := by decide +kernel
theorem dX1_isWell_61 : decode cX1_isWell 61 = .ok (.iload_n 2, 1) := by decide +kernel
theorem dX1_isWell_62 : decode cX1_isWell 62 = .ok (.invokevirtual 48, 3) := by decide +kernel
theorem dX1_isWell_65 : decode cX1_isWell 65 = .ok (.ifCond .eq 17, 3) := by decide +kernel
theorem dX1_isWell_68 : decode cX1_isWell 68 = .ok (.iload_n 3, 1) := by decide +kernel
theorem dX1_isWell_69 : decode cX1_isWell 69 = .ok (.iconst 1, 1) := by decide +kernel
theorem dX1_isWell_70 : decode cX1_isWell 70 = .ok (.bipush 12, 2) := by decide +kernel
theorem dX1_isWell_72 : decode cX1_isWell 72 = .ok (.invokestatic 44, 3) := by decide +kernel
theorem dX1_isWell_75 : decode cX1_isWell 75 = .ok (.ifCond .eq 7, 3) := by decide +kernel
theorem dX1_isWell_78 : decode cX1_isWell 78 = .ok (.iconst 1, 1) := by decide +kernel
theorem dX1_isWell_79 : decode cX1_isWell 79 = .ok (.goto 4, 3) := by decide +kernel
theorem dX1_isWell_82 : decode cX1_isWell 82 = .ok (.iconst 0, 1) := by decide +kernel
theorem dX1_isWell_83 : decode cX1_isWell 83 = .ok (.ireturn, 1) := by decide +kernel
set_option maxRecDepth 20000 in
theorem ggX1_heap_X1_isWell : GoodIn wsX1_heap wsX1_isWell := goodIn_r _ [9, 10, 11, 12, 8, 13, 14, 15, 16, 17, 18, 19, 20, 21, 22, 23, 24, 25, 26, 27, 28, 29, 30, 31, 32, 33] (by decide +kernel) (by decide +kernel)
set_option maxRecDepth 20000 in
theorem gX1_heap_X1_isWell : GoodIn wsX1_heap (wsV RX1 52 RX1 yX1_isWell wsX1_isWell) := goodIn_app (goodIn_of _ (by decide +kernel)) ggX1_heap_X1_isWell
theorem dX1_heap_0 : decode cX1_heap 0 = .ok (.aload_n 0, 1) := by decide +kernel
theorem dX1_heap_1 : decode cX1_heap 1 = .ok (.iload_n 1, 1) := by decide +kernel
theorem dX1_heap_2 : decode cX1_heap 2 = .ok (.iload_n 2, 1) := by decide +kernel
theorem dX1_heap_3 : decode cX1_heap 3 = .ok (.iload_n 3, 1) := by decide +kernel
theorem dX1_heap_4 : decode cX1_heap 4 = .ok (.invokevirtual 52, 3) := by decide +kernel
theorem dX1_heap_7 : decode cX1_heap 7 = .ok (.ifCond .ne 5, 3) := by decide +kernel
theorem dX1_heap_10 : decode cX1_heap 10 = .ok (.iconst (-1), 1) := by decide +kernel
theorem dX1_heap_11 : decode cX1_heap 11 = .ok (.ireturn, 1) := by decide +kernel
theorem dX1_heap_12 : decode cX1_heap 12 = .ok (.aload_n 0, 1) := by decide +kernel
theorem dX1_heap_13 : decode cX1_heap 13 = .ok (.getfield 41, 3) := by decide +kernel
theorem dX1_heap_16 : decode cX1_heap 16 = .ok (.bipush 10, 2) := by decide +kernel
theorem dX1_heap_18 : decode cX1_heap 18 = .ok (.if_icmp .ne 6, 3) := by decide +kernel
theorem dX1_heap_21 : decode cX1_heap 21 = .ok (.bipush (-3), 2) := by decide +kernel
theorem dX1_heap_23 : decode cX1_heap 23 = .ok (.ireturn, 1) := by decide +kernel
theorem dX1_heap_24 : decode cX1_heap 24 = .ok (.aload_n 0, 1) := by decide +kernel
theorem dX1_heap_25 : decode cX1_heap 25 = .ok (.getfield 20, 3) := by decide +kernel
theorem dX1_heap_28 : decode cX1_heap 28 = .ok (.aload_n 0, 1) := by decide +kernel
theorem dX1_heap_29 : decode cX1_heap 29 = .ok (.getfield 41, 3) := by decide +kernel
theorem dX1_heap_32 : decode cX1_heap 32 = .ok (.iload_n 1, 1) := by decide +kernel
theorem dX1_heap_33 : decode cX1_heap 33 = .ok (.iastore, 1) := by decide +kernel
theorem dX1_heap_34 : decode cX1_heap 34 = .ok (.aload_n 0, 1) := by decide +kernel
theorem dX1_heap_35 : decode cX1_heap 35 = .ok (.getfield 23, 3) := by decide +kernel
theorem dX1_heap_38 : decode cX1_heap 38 = .ok (.aload_n 0, 1) := by decide +kernel
theorem dX1_heap_39 : decode cX1_heap 39 = .ok (.getfield 41, 3) := by decide +kernel
theorem dX1_heap_42 : decode cX1_heap 42 = .ok (.iload_n 2, 1) := by decide +kernel
theorem dX1_heap_43 : decode cX1_heap 43 = .ok (.iastore, 1) := by decide +kernel
theorem dX1_heap_44 : decode cX1_heap 44 = .ok (.aload_n 0, 1) := by decide +kernel
theorem dX1_heap_45 : decode cX1_heap 45 = .ok (.getfield 26, 3) := by decide +kernel
theorem dX1_heap_48 : decode cX1_heap 48 = .ok (.aload_n 0, 1) := by decide +kernel
theorem dX1_heap_49 : decode cX1_heap 49 = .ok (.getfield 41, 3) := by decide +kernel
theorem dX1_heap_52 : decode cX1_heap 52 = .ok (.iload_n 3, 1) := by decide +kernel
theorem dX1_heap_53 : decode cX1_heap 53 = .ok (.iastore, 1) := by decide +kernel
theorem dX1_heap_54 : decode cX1_heap 54 = .ok (.aload_n 0, 1) := by decide +kernel
theorem dX1_heap_55 : decode cX1_heap 55 = .ok (.dup, 1) := by decide +kernel
theorem dX1_heap_56 : decode cX1_heap 56 = .ok (.getfield 41, 3) := by decide +kernel
theorem dX1_heap_59 : decode cX1_heap 59 = .ok (.iconst 1, 1) := by decide +kernel
theorem dX1_heap_60 : decode cX1_heap 60 = .ok (.iadd, 1) := by decide +kernel
theorem dX1_heap_61 : decode cX1_heap 61 = .ok (.putfield 41, 3) := by decide +kernel
theorem dX1_heap_64 : decode cX1_heap 64 = .ok (.aload_n 0, 1) := by decide +kernel
theorem dX1_heap_65 : decode cX1_heap 65 = .ok (.getfield 41, 3) := by decide +kernel
theorem dX1_heap_68 : decode cX1_heap 68 = .ok (.iconst 1, 1) := by decide +kernel
theorem dX1_heap_69 : decode cX1_heap 69 = .ok (.isub, 1) := by decide +kernel
theorem dX1_heap_70 : decode cX1_heap 70 = .ok (.ireturn, 1) := by decide +kernel
theorem dX1_drop_0 : decode cX1_drop 0 = .ok (.aload_n 0, 1) := by decide +kernel
theorem dX1_drop_1 : decode cX1_drop 1 = .ok (.getfield 41, 3) := by decide +kernel
theorem dX1_drop_4 : decode cX1_drop 4 = .ok (.ifCond .ne 6, 3) := by decide +kernel
theorem dX1_drop_7 : decode cX1_drop 7 = .ok (.bipush (-2), 2) := by decide +kernel
theorem dX1_drop_9 : decode cX1_drop 9 = .ok (.ireturn, 1) := by decide +kernel
theorem dX1_drop_10 : decode cX1_drop 10 = .ok (.aload_n 0, 1) := by decide +kernel
theorem dX1_drop_11 : decode cX1_drop 11 = .ok (.dup, 1) := by decide +kernel
theorem dX1_drop_12 : decode cX1_drop 12 = .ok (.getfield 41, 3) := by decide +kernel
theorem dX1_drop_15 : decode cX1_drop 15 = .ok (.iconst 1, 1) := by decide +kernel
theorem dX1_drop_16 : decode cX1_drop 16 = .ok (.isub, 1) := by decide +kernel
theorem dX1_drop_17 : decode cX1_drop 17 = .ok (.putfield 41, 3) := by decide +kernel
theorem dX1_drop_20 : decode cX1_drop 20 = .ok (.aload_n 0, 1) := by decide +kernel
theorem dX1_drop_21 : decode cX1_drop 21 = .ok (.getfield 41, 3) := by decide +kernel
theorem dX1_drop_24 : decode cX1_drop 24 = .ok (.ireturn, 1) := by decide +kernel
theorem dX1_placeOf_0 : decode cX1_placeOf 0 = .ok (.iconst 0, 1) := by decide +kernel
theorem dX1_placeOf_1 : decode cX1_placeOf 1 = .ok (.istore_n 2, 1) := by decide +kernel
theorem dX1_placeOf_2 : decode cX1_placeOf 2 = .ok (.aload_n 0, 1) := by decide +kernel
theorem dX1_placeOf_3 : decode cX1_placeOf 3 = .ok (.getfield 13, 3) := by decide +kernel
theorem dX1_placeOf_6 : decode cX1_placeOf 6 = .ok (.iload_n 2, 1) := by decide +kernel
theorem dX1_placeOf_7 : decode cX1_placeOf 7 = .ok (.iaload, 1) := by decide +kernel
theorem dX1_placeOf_8 : decode cX1_placeOf 8 = .ok (.iload_n 1, 1) := by decide +kernel
theorem dX1_placeOf_9 : decode cX1_placeOf 9 = .ok (.if_icmp .eq 9, 3) := by decide +kernel
theorem dX1_placeOf_12 : decode cX1_placeOf 12 = .ok (.iinc 2 1, 3) := by decide +kernel
theorem dX1_placeOf_15 : decode cX1_placeOf 15 = .ok (.goto (-13), 3) := by decide +kernel
theorem dX1_placeOf_18 : decode cX1_placeOf 18 = .ok (.iload_n 2, 1) := by decide +kernel
theorem dX1_placeOf_19 : decode cX1_placeOf 19 = .ok (.ireturn, 1) := by decide +kernel
set_option maxRecDepth 20000 in
theorem ggX1_holds_X1_in : GoodIn wsX1_holds wsX1_in := goodIn_r _ [7] (by decide +kernel) (by decide +kernel)
set_option maxRecDepth 20000 in
theorem gX1_holds_X1_in : GoodIn wsX1_holds (va_wsS RX1 44 yX1_in wsX1_in) := goodIn_app (goodIn_of _ (by decide +kernel)) ggX1_holds_X1_in
set_option maxRecDepth 20000 in
theorem ggX1_holds_X1_placeOf : GoodIn wsX1_holds wsX1_placeOf := goodIn_r _ [11, 12, 13, 14, 15, 16, 17, 18, 19, 20, 21, 22, 23, 24, 25, 26, 27, 28] (by decide +kernel) (by decide +kernel)
set_option maxRecDepth 20000 in
theorem gX1_holds_X1_placeOf : GoodIn wsX1_holds (wsV RX1 55 RX1 yX1_placeOf wsX1_placeOf) := goodIn_app (goodIn_of _ (by decide +kernel)) ggX1_holds_X1_placeOf
theorem dX1_holds_0 : decode cX1_holds 0 = .ok (.aload_n 0, 1) := by decide +kernel
theorem dX1_holds_1 : decode cX1_holds 1 = .ok (.getfield 20, 3) := by decide +kernel
theorem dX1_holds_4 : decode cX1_holds 4 = .ok (.iload_n 1, 1) := by decide +kernel
theorem dX1_holds_5 : decode cX1_holds 5 = .ok (.iaload, 1) := by decide +kernel
theorem dX1_holds_6 : decode cX1_holds 6 = .ok (.tableswitch 84 0 2 #[26, 46, 63], 26) := by decide +kernel
theorem dX1_holds_32 : decode cX1_holds 32 = .ok (.aload_n 0, 1) := by decide +kernel
theorem dX1_holds_33 : decode cX1_holds 33 = .ok (.getfield 23, 3) := by decide +kernel
theorem dX1_holds_36 : decode cX1_holds 36 = .ok (.iload_n 1, 1) := by decide +kernel
theorem dX1_holds_37 : decode cX1_holds 37 = .ok (.iaload, 1) := by decide +kernel
theorem dX1_holds_38 : decode cX1_holds 38 = .ok (.iload_n 2, 1) := by decide +kernel
theorem dX1_holds_39 : decode cX1_holds 39 = .ok (.ishr, 1) := by decide +kernel
theorem dX1_holds_40 : decode cX1_holds 40 = .ok (.iconst 1, 1) := by decide +kernel
theorem dX1_holds_41 : decode cX1_holds 41 = .ok (.iand, 1) := by decide +kernel
theorem dX1_holds_42 : decode cX1_holds 42 = .ok (.iconst 1, 1) := by decide +kernel
theorem dX1_holds_43 : decode cX1_holds 43 = .ok (.if_icmp .ne 7, 3) := by decide +kernel
theorem dX1_holds_46 : decode cX1_holds 46 = .ok (.iconst 1, 1) := by decide +kernel
theorem dX1_holds_47 : decode cX1_holds 47 = .ok (.goto 4, 3) := by decide +kernel
theorem dX1_holds_50 : decode cX1_holds 50 = .ok (.iconst 0, 1) := by decide +kernel
theorem dX1_holds_51 : decode cX1_holds 51 = .ok (.ireturn, 1) := by decide +kernel
theorem dX1_holds_52 : decode cX1_holds 52 = .ok (.iload_n 2, 1) := by decide +kernel
theorem dX1_holds_53 : decode cX1_holds 53 = .ok (.aload_n 0, 1) := by decide +kernel
theorem dX1_holds_54 : decode cX1_holds 54 = .ok (.getfield 23, 3) := by decide +kernel
theorem dX1_holds_57 : decode cX1_holds 57 = .ok (.iload_n 1, 1) := by decide +kernel
theorem dX1_holds_58 : decode cX1_holds 58 = .ok (.iaload, 1) := by decide +kernel
theorem dX1_holds_59 : decode cX1_holds 59 = .ok (.aload_n 0, 1) := by decide +kernel
theorem dX1_holds_60 : decode cX1_holds 60 = .ok (.getfield 26, 3) := by decide +kernel
theorem dX1_holds_63 : decode cX1_holds 63 = .ok (.iload_n 1, 1) := by decide +kernel
theorem dX1_holds_64 : decode cX1_holds 64 = .ok (.iaload, 1) := by decide +kernel
theorem dX1_holds_65 : decode cX1_holds 65 = .ok (.invokestatic 44, 3) := by decide +kernel
theorem dX1_holds_68 : decode cX1_holds 68 = .ok (.ireturn, 1) := by decide +kernel
theorem dX1_holds_69 : decode cX1_holds 69 = .ok (.aload_n 0, 1) := by decide +kernel
theorem dX1_holds_70 : decode cX1_holds 70 = .ok (.iload_n 2, 1) := by decide +kernel
theorem dX1_holds_71 : decode cX1_holds 71 = .ok (.invokevirtual 55, 3) := by decide +kernel
theorem dX1_holds_74 : decode cX1_holds 74 = .ok (.aload_n 0, 1) := by decide +kernel
theorem dX1_holds_75 : decode cX1_holds 75 = .ok (.getfield 23, 3) := by decide +kernel
theorem dX1_holds_78 : decode cX1_holds 78 = .ok (.iload_n 1, 1) := by decide +kernel
theorem dX1_holds_79 : decode cX1_holds 79 = .ok (.iaload, 1) := by decide +kernel
theorem dX1_holds_80 : decode cX1_holds 80 = .ok (.aload_n 0, 1) := by decide +kernel
theorem dX1_holds_81 : decode cX1_holds 81 = .ok (.getfield 26, 3) := by decide +kernel
theorem dX1_holds_84 : decode cX1_holds 84 = .ok (.iload_n 1, 1) := by decide +kernel
theorem dX1_holds_85 : decode cX1_holds 85 = .ok (.iaload, 1) := by decide +kernel
theorem dX1_holds_86 : decode cX1_holds 86 = .ok (.invokestatic 44, 3) := by decide +kernel
theorem dX1_holds_89 : decode cX1_holds 89 = .ok (.ireturn, 1) := by decide +kernel
theorem dX1_holds_90 : decode cX1_holds 90 = .ok (.iload_n 2, 1) := by decide +kernel
theorem dX1_holds_91 : decode cX1_holds 91 = .ok (.aload_n 0, 1) := by decide +kernel
theorem dX1_holds_92 : decode cX1_holds 92 = .ok (.getfield 23, 3) := by decide +kernel
theorem dX1_holds_95 : decode cX1_holds 95 = .ok (.iload_n 1, 1) := by decide +kernel
theorem dX1_holds_96 : decode cX1_holds 96 = .ok (.iaload, 1) := by decide +kernel
theorem dX1_holds_97 : decode cX1_holds 97 = .ok (.if_icmp .lt 25, 3) := by decide +kernel
theorem dX1_holds_100 : decode cX1_holds 100 = .ok (.iload_n 2, 1) := by decide +kernel
theorem dX1_holds_101 : decode cX1_holds 101 = .ok (.aload_n 0, 1) := by decide +kernel
theorem dX1_holds_102 : decode cX1_holds 102 = .ok (.getfield 23, 3) := by decide +kernel
theorem dX1_holds_105 : decode cX1_holds 105 = .ok (.iload_n 1, 1) := by decide +kernel
theorem dX1_holds_106 : decode cX1_holds 106 = .ok (.iaload, 1) := by decide +kernel
theorem dX1_holds_107 : decode cX1_holds 107 = .ok (.isub, 1) := by decide +kernel
theorem dX1_holds_108 : decode cX1_holds 108 = .ok (.aload_n 0, 1) := by decide +kernel
theorem dX1_holds_109 : decode cX1_holds 109 = .ok (.getfield 26, 3) := by decide +kernel
theorem dX1_holds_112 : decode cX1_holds 112 = .ok (.iload_n 1, 1) := by decide +kernel
theorem dX1_holds_113 : decode cX1_holds 113 = .ok (.iaload, 1) := by decide +kernel
theorem dX1_holds_114 : decode cX1_holds 114 = .ok (.irem, 1) := by decide +kernel
theorem dX1_holds_115 : decode cX1_holds 115 = .ok (.ifCond .ne 7, 3) := by decide +kernel
theorem dX1_holds_118 : decode cX1_holds 118 = .ok (.iconst 1, 1) := by decide +kernel
theorem dX1_holds_119 : decode cX1_holds 119 = .ok (.goto 4, 3) := by decide +kernel
theorem dX1_holds_122 : decode cX1_holds 122 = .ok (.iconst 0, 1) := by decide +kernel
theorem dX1_holds_123 : decode cX1_holds 123 = .ok (.ireturn, 1) := by decide +kernel
set_option maxRecDepth 20000 in
theorem ggX1_isHeap_X1_in : GoodIn wsX1_isHeap wsX1_in := goodIn_r _ [5] (by decide +kernel) (by decide +kernel)
set_option maxRecDepth 20000 in
theorem gX1_isHeap_X1_in : GoodIn wsX1_isHeap (va_wsS RX1 44 yX1_in wsX1_in) := goodIn_app (goodIn_of _ (by decide +kernel)) ggX1_isHeap_X1_in
theorem dX1_isHeap_0 : decode cX1_isHeap 0 = .ok (.iload_n 1, 1) := by decide +kernel
theorem dX1_isHeap_1 : decode cX1_isHeap 1 = .ok (.iconst 0, 1) := by decide +kernel
theorem dX1_isHeap_2 : decode cX1_isHeap 2 = .ok (.aload_n 0, 1) := by decide +kernel
end
section
theorem dX1_isHeap_3 : decode cX1_isHeap 3 = .ok (.getfield 41, 3) := by decide +kernel
theorem dX1_isHeap_6 : decode cX1_isHeap 6 = .ok (.iconst 1, 1) := by decide +kernel
theorem dX1_isHeap_7 : decode cX1_isHeap 7 = .ok (.isub, 1) := by decide +kernel
theorem dX1_isHeap_8 : decode cX1_isHeap 8 = .ok (.invokestatic 44, 3) := by decide +kernel
theorem dX1_isHeap_11 : decode cX1_isHeap 11 = .ok (.ireturn, 1) := by decide +kernel
set_option maxRecDepth 20000 in
theorem ggX1_has_X1_isHeap : GoodIn wsX1_has wsX1_isHeap := goodIn_r _ [10, 11, 12, 13, 9, 14, 31, 32, 33, 34, 35, 36, 37, 38, 39, 40, 41, 42, 43, 44, 45, 46] (by decide +kernel) (by decide +kernel)
set_option maxRecDepth 20000 in
theorem gX1_has_X1_isHeap : GoodIn wsX1_has (wsV RX1 59 RX1 yX1_isHeap wsX1_isHeap) := goodIn_app (goodIn_of _ (by decide +kernel)) ggX1_has_X1_isHeap
set_option maxRecDepth 20000 in
theorem ggX1_has_X1_isThing : GoodIn wsX1_has wsX1_isThing := goodIn_r _ [18, 19, 12, 13, 9, 14, 31, 32, 33, 34, 35, 36, 37, 38, 39, 40, 41, 42, 43, 44, 45, 46] (by decide +kernel) (by decide +kernel)
set_option maxRecDepth 20000 in
theorem gX1_has_X1_isThing : GoodIn wsX1_has (wsV RX1 48 RX1 yX1_isThing wsX1_isThing) := goodIn_app (goodIn_of _ (by decide +kernel)) ggX1_has_X1_isThing
set_option maxRecDepth 20000 in
theorem ggX1_has_X1_holds : GoodIn wsX1_has wsX1_holds := goodIn_r _ [23, 2, 24, 25, 12, 13, 9, 14, 26, 27, 28, 29, 30, 31, 32, 33, 34, 35, 36, 37, 38, 39, 40, 41, 42, 43, 44, 45, 46] (by decide +kernel) (by decide +kernel)
set_option maxRecDepth 20000 in
theorem gX1_has_X1_holds : GoodIn wsX1_has (wsV RX1 72 RX1 yX1_holds wsX1_holds) := goodIn_app (goodIn_of _ (by decide +kernel)) ggX1_has_X1_holds
theorem dX1_has_0 : decode cX1_has 0 = .ok (.aload_n 0, 1) := by decide +kernel
theorem dX1_has_1 : decode cX1_has 1 = .ok (.iload_n 1, 1) := by decide +kernel
theorem dX1_has_2 : decode cX1_has 2 = .ok (.invokevirtual 59, 3) := by decide +kernel
theorem dX1_has_5 : decode cX1_has 5 = .ok (.ifCond .eq 11, 3) := by decide +kernel
theorem dX1_has_8 : decode cX1_has 8 = .ok (.aload_n 0, 1) := by decide +kernel
theorem dX1_has_9 : decode cX1_has 9 = .ok (.iload_n 2, 1) := by decide +kernel
theorem dX1_has_10 : decode cX1_has 10 = .ok (.invokevirtual 48, 3) := by decide +kernel
theorem dX1_has_13 : decode cX1_has 13 = .ok (.ifCond .ne 5, 3) := by decide +kernel
theorem dX1_has_16 : decode cX1_has 16 = .ok (.iconst (-1), 1) := by decide +kernel
theorem dX1_has_17 : decode cX1_has 17 = .ok (.ireturn, 1) := by decide +kernel
theorem dX1_has_18 : decode cX1_has 18 = .ok (.aload_n 0, 1) := by decide +kernel
theorem dX1_has_19 : decode cX1_has 19 = .ok (.dup, 1) := by decide +kernel
theorem dX1_has_20 : decode cX1_has 20 = .ok (.getfield 62, 3) := by decide +kernel
theorem dX1_has_23 : decode cX1_has 23 = .ok (.aload_n 0, 1) := by decide +kernel
theorem dX1_has_24 : decode cX1_has 24 = .ok (.getfield 20, 3) := by decide +kernel
theorem dX1_has_27 : decode cX1_has 27 = .ok (.iload_n 1, 1) := by decide +kernel
theorem dX1_has_28 : decode cX1_has 28 = .ok (.iaload, 1) := by decide +kernel
theorem dX1_has_29 : decode cX1_has 29 = .ok (.ifCond .ne 7, 3) := by decide +kernel
theorem dX1_has_32 : decode cX1_has 32 = .ok (.lconst 1, 1) := by decide +kernel
theorem dX1_has_33 : decode cX1_has 33 = .ok (.goto 38, 3) := by decide +kernel
theorem dX1_has_36 : decode cX1_has 36 = .ok (.aload_n 0, 1) := by decide +kernel
theorem dX1_has_37 : decode cX1_has 37 = .ok (.getfield 20, 3) := by decide +kernel
theorem dX1_has_40 : decode cX1_has 40 = .ok (.iload_n 1, 1) := by decide +kernel
theorem dX1_has_41 : decode cX1_has 41 = .ok (.iaload, 1) := by decide +kernel
theorem dX1_has_42 : decode cX1_has 42 = .ok (.iconst 1, 1) := by decide +kernel
theorem dX1_has_43 : decode cX1_has 43 = .ok (.if_icmp .ne 9, 3) := by decide +kernel
theorem dX1_has_46 : decode cX1_has 46 = .ok (.ldc2_w 66, 3) := by decide +kernel
theorem dX1_has_49 : decode cX1_has 49 = .ok (.goto 22, 3) := by decide +kernel
theorem dX1_has_52 : decode cX1_has 52 = .ok (.aload_n 0, 1) := by decide +kernel
theorem dX1_has_53 : decode cX1_has 53 = .ok (.getfield 20, 3) := by decide +kernel
theorem dX1_has_56 : decode cX1_has 56 = .ok (.iload_n 1, 1) := by decide +kernel
theorem dX1_has_57 : decode cX1_has 57 = .ok (.iaload, 1) := by decide +kernel
theorem dX1_has_58 : decode cX1_has 58 = .ok (.iconst 2, 1) := by decide +kernel
theorem dX1_has_59 : decode cX1_has 59 = .ok (.if_icmp .ne 9, 3) := by decide +kernel
theorem dX1_has_62 : decode cX1_has 62 = .ok (.ldc2_w 68, 3) := by decide +kernel
theorem dX1_has_65 : decode cX1_has 65 = .ok (.goto 6, 3) := by decide +kernel
theorem dX1_has_68 : decode cX1_has 68 = .ok (.ldc2_w 70, 3) := by decide +kernel
theorem dX1_has_71 : decode cX1_has 71 = .ok (.ladd, 1) := by decide +kernel
theorem dX1_has_72 : decode cX1_has 72 = .ok (.putfield 62, 3) := by decide +kernel
theorem dX1_has_75 : decode cX1_has 75 = .ok (.aload_n 0, 1) := by decide +kernel
theorem dX1_has_76 : decode cX1_has 76 = .ok (.iload_n 1, 1) := by decide +kernel
theorem dX1_has_77 : decode cX1_has 77 = .ok (.iload_n 2, 1) := by decide +kernel
theorem dX1_has_78 : decode cX1_has 78 = .ok (.invokevirtual 72, 3) := by decide +kernel
theorem dX1_has_81 : decode cX1_has 81 = .ok (.ifCond .eq 7, 3) := by decide +kernel
theorem dX1_has_84 : decode cX1_has 84 = .ok (.iconst 1, 1) := by decide +kernel
theorem dX1_has_85 : decode cX1_has 85 = .ok (.goto 4, 3) := by decide +kernel
theorem dX1_has_88 : decode cX1_has 88 = .ok (.iconst 0, 1) := by decide +kernel
theorem dX1_has_89 : decode cX1_has 89 = .ok (.ireturn, 1) := by decide +kernel
set_option maxRecDepth 20000 in
theorem ggX1_bits_X1_isHeap : GoodIn wsX1_bits wsX1_isHeap := goodIn_r _ [5, 6, 7, 8, 4, 9, 27, 28, 29, 30, 31, 32, 33, 34, 35, 36, 37, 38, 39, 40, 41, 42] (by decide +kernel) (by decide +kernel)
set_option maxRecDepth 20000 in
theorem gX1_bits_X1_isHeap : GoodIn wsX1_bits (wsV RX1 59 RX1 yX1_isHeap wsX1_isHeap) := goodIn_app (goodIn_of _ (by decide +kernel)) ggX1_bits_X1_isHeap
set_option maxRecDepth 20000 in
theorem ggX1_bits_X1_bitsOf : GoodIn wsX1_bits wsX1_bitsOf := goodIn_r _ [13, 14, 15, 16, 17, 4, 18, 19, 20, 21, 7, 8, 9, 22, 23, 24, 25, 26, 27, 28, 29, 30, 31, 32, 33, 34, 35, 36, 37, 38, 39, 40, 41, 42] (by decide +kernel) (by decide +kernel)
set_option maxRecDepth 20000 in
theorem gX1_bits_X1_bitsOf : GoodIn wsX1_bits (wsV RX1 76 RX1 yX1_bitsOf wsX1_bitsOf) := goodIn_app (goodIn_of _ (by decide +kernel)) ggX1_bits_X1_bitsOf
theorem dX1_bits_0 : decode cX1_bits 0 = .ok (.aload_n 0, 1) := by decide +kernel
theorem dX1_bits_1 : decode cX1_bits 1 = .ok (.iload_n 1, 1) := by decide +kernel
theorem dX1_bits_2 : decode cX1_bits 2 = .ok (.invokevirtual 59, 3) := by decide +kernel
theorem dX1_bits_5 : decode cX1_bits 5 = .ok (.ifCond .eq 11, 3) := by decide +kernel
theorem dX1_bits_8 : decode cX1_bits 8 = .ok (.aload_n 0, 1) := by decide +kernel
theorem dX1_bits_9 : decode cX1_bits 9 = .ok (.iload_n 1, 1) := by decide +kernel
theorem dX1_bits_10 : decode cX1_bits 10 = .ok (.invokevirtual 76, 3) := by decide +kernel
theorem dX1_bits_13 : decode cX1_bits 13 = .ok (.goto 4, 3) := by decide +kernel
theorem dX1_bits_16 : decode cX1_bits 16 = .ok (.iconst (-1), 1) := by decide +kernel
theorem dX1_bits_17 : decode cX1_bits 17 = .ok (.ireturn, 1) := by decide +kernel
set_option maxRecDepth 20000 in
theorem ggX1_bitsOf_X1_holds : GoodIn wsX1_bitsOf wsX1_holds := goodIn_r _ [6, 7, 8, 9, 10, 11, 5, 12, 13, 14, 15, 16, 17, 18, 19, 20, 21, 22, 23, 24, 25, 26, 27, 28, 29, 30, 31, 32, 33] (by decide +kernel) (by decide +kernel)
set_option maxRecDepth 20000 in
theorem gX1_bitsOf_X1_holds : GoodIn wsX1_bitsOf (wsV RX1 72 RX1 yX1_holds wsX1_holds) := goodIn_app (goodIn_of _ (by decide +kernel)) ggX1_bitsOf_X1_holds
theorem dX1_bitsOf_0 : decode cX1_bitsOf 0 = .ok (.iconst 0, 1) := by decide +kernel
theorem dX1_bitsOf_1 : decode cX1_bitsOf 1 = .ok (.istore_n 2, 1) := by decide +kernel
theorem dX1_bitsOf_2 : decode cX1_bitsOf 2 = .ok (.iconst 0, 1) := by decide +kernel
theorem dX1_bitsOf_3 : decode cX1_bitsOf 3 = .ok (.istore_n 3, 1) := by decide +kernel
theorem dX1_bitsOf_4 : decode cX1_bitsOf 4 = .ok (.iload_n 3, 1) := by decide +kernel
theorem dX1_bitsOf_5 : decode cX1_bitsOf 5 = .ok (.aload_n 0, 1) := by decide +kernel
theorem dX1_bitsOf_6 : decode cX1_bitsOf 6 = .ok (.getfield 7, 3) := by decide +kernel
theorem dX1_bitsOf_9 : decode cX1_bitsOf 9 = .ok (.if_icmp .ge 28, 3) := by decide +kernel
theorem dX1_bitsOf_12 : decode cX1_bitsOf 12 = .ok (.iload_n 2, 1) := by decide +kernel
theorem dX1_bitsOf_13 : decode cX1_bitsOf 13 = .ok (.aload_n 0, 1) := by decide +kernel
theorem dX1_bitsOf_14 : decode cX1_bitsOf 14 = .ok (.iload_n 1, 1) := by decide +kernel
theorem dX1_bitsOf_15 : decode cX1_bitsOf 15 = .ok (.iload_n 3, 1) := by decide +kernel
theorem dX1_bitsOf_16 : decode cX1_bitsOf 16 = .ok (.invokevirtual 72, 3) := by decide +kernel
theorem dX1_bitsOf_19 : decode cX1_bitsOf 19 = .ok (.ifCond .eq 9, 3) := by decide +kernel
theorem dX1_bitsOf_22 : decode cX1_bitsOf 22 = .ok (.iconst 1, 1) := by decide +kernel
theorem dX1_bitsOf_23 : decode cX1_bitsOf 23 = .ok (.iload_n 3, 1) := by decide +kernel
theorem dX1_bitsOf_24 : decode cX1_bitsOf 24 = .ok (.ishl, 1) := by decide +kernel
theorem dX1_bitsOf_25 : decode cX1_bitsOf 25 = .ok (.goto 4, 3) := by decide +kernel
theorem dX1_bitsOf_28 : decode cX1_bitsOf 28 = .ok (.iconst 0, 1) := by decide +kernel
theorem dX1_bitsOf_29 : decode cX1_bitsOf 29 = .ok (.ior, 1) := by decide +kernel
theorem dX1_bitsOf_30 : decode cX1_bitsOf 30 = .ok (.istore_n 2, 1) := by decide +kernel
theorem dX1_bitsOf_31 : decode cX1_bitsOf 31 = .ok (.iinc 3 1, 3) := by decide +kernel
theorem dX1_bitsOf_34 : decode cX1_bitsOf 34 = .ok (.goto (-30), 3) := by decide +kernel
theorem dX1_bitsOf_37 : decode cX1_bitsOf 37 = .ok (.iload_n 2, 1) := by decide +kernel
theorem dX1_bitsOf_38 : decode cX1_bitsOf 38 = .ok (.ireturn, 1) := by decide +kernel
set_option maxRecDepth 20000 in
theorem ggX1_hold_X1_isThing : GoodIn wsX1_hold wsX1_isThing := goodIn_r _ [6, 7, 8, 9, 5, 10, 11, 12, 13, 14, 15, 16, 17, 18, 19, 20, 21, 22, 23, 24, 25, 26] (by decide +kernel) (by decide +kernel)
set_option maxRecDepth 20000 in
theorem gX1_hold_X1_isThing : GoodIn wsX1_hold (wsV RX1 48 RX1 yX1_isThing wsX1_isThing) := goodIn_app (goodIn_of _ (by decide +kernel)) ggX1_hold_X1_isThing
set_option maxRecDepth 20000 in
theorem ggX1_hold_X1_in : GoodIn wsX1_hold wsX1_in := goodIn_r _ [10] (by decide +kernel) (by decide +kernel)
set_option maxRecDepth 20000 in
theorem gX1_hold_X1_in : GoodIn wsX1_hold (va_wsS RX1 44 yX1_in wsX1_in) := goodIn_app (goodIn_of _ (by decide +kernel)) ggX1_hold_X1_in
theorem dX1_hold_0 : decode cX1_hold 0 = .ok (.aload_n 0, 1) := by decide +kernel
theorem dX1_hold_1 : decode cX1_hold 1 = .ok (.iload_n 1, 1) := by decide +kernel
theorem dX1_hold_2 : decode cX1_hold 2 = .ok (.invokevirtual 48, 3) := by decide +kernel
theorem dX1_hold_5 : decode cX1_hold 5 = .ok (.ifCond .eq 12, 3) := by decide +kernel
theorem dX1_hold_8 : decode cX1_hold 8 = .ok (.iload_n 2, 1) := by decide +kernel
theorem dX1_hold_9 : decode cX1_hold 9 = .ok (.iconst (-1), 1) := by decide +kernel
theorem dX1_hold_10 : decode cX1_hold 10 = .ok (.iconst 1, 1) := by decide +kernel
theorem dX1_hold_11 : decode cX1_hold 11 = .ok (.invokestatic 44, 3) := by decide +kernel
theorem dX1_hold_14 : decode cX1_hold 14 = .ok (.ifCond .ne 6, 3) := by decide +kernel
theorem dX1_hold_17 : decode cX1_hold 17 = .ok (.bipush (-2), 2) := by decide +kernel
theorem dX1_hold_19 : decode cX1_hold 19 = .ok (.ireturn, 1) := by decide +kernel
theorem dX1_hold_20 : decode cX1_hold 20 = .ok (.aload_n 0, 1) := by decide +kernel
theorem dX1_hold_21 : decode cX1_hold 21 = .ok (.getfield 17, 3) := by decide +kernel
theorem dX1_hold_24 : decode cX1_hold 24 = .ok (.iload_n 1, 1) := by decide +kernel
theorem dX1_hold_25 : decode cX1_hold 25 = .ok (.iaload, 1) := by decide +kernel
theorem dX1_hold_26 : decode cX1_hold 26 = .ok (.istore_n 3, 1) := by decide +kernel
theorem dX1_hold_27 : decode cX1_hold 27 = .ok (.aload_n 0, 1) := by decide +kernel
theorem dX1_hold_28 : decode cX1_hold 28 = .ok (.getfield 17, 3) := by decide +kernel
theorem dX1_hold_31 : decode cX1_hold 31 = .ok (.iload_n 1, 1) := by decide +kernel
theorem dX1_hold_32 : decode cX1_hold 32 = .ok (.iload_n 2, 1) := by decide +kernel
theorem dX1_hold_33 : decode cX1_hold 33 = .ok (.iastore, 1) := by decide +kernel
theorem dX1_hold_34 : decode cX1_hold 34 = .ok (.iload_n 3, 1) := by decide +kernel
theorem dX1_hold_35 : decode cX1_hold 35 = .ok (.ireturn, 1) := by decide +kernel
theorem dX1_ones_0 : decode cX1_ones 0 = .ok (.iconst 0, 1) := by decide +kernel
theorem dX1_ones_1 : decode cX1_ones 1 = .ok (.istore_n 1, 1) := by decide +kernel
theorem dX1_ones_2 : decode cX1_ones 2 = .ok (.iload_n 0, 1) := by decide +kernel
theorem dX1_ones_3 : decode cX1_ones 3 = .ok (.istore_n 2, 1) := by decide +kernel
theorem dX1_ones_4 : decode cX1_ones 4 = .ok (.iload_n 2, 1) := by decide +kernel
theorem dX1_ones_5 : decode cX1_ones 5 = .ok (.ifCond .eq 15, 3) := by decide +kernel
theorem dX1_ones_8 : decode cX1_ones 8 = .ok (.iinc 1 1, 3) := by decide +kernel
theorem dX1_ones_11 : decode cX1_ones 11 = .ok (.iload_n 2, 1) := by decide +kernel
theorem dX1_ones_12 : decode cX1_ones 12 = .ok (.iload_n 2, 1) := by decide +kernel
theorem dX1_ones_13 : decode cX1_ones 13 = .ok (.iconst 1, 1) := by decide +kernel
theorem dX1_ones_14 : decode cX1_ones 14 = .ok (.isub, 1) := by decide +kernel
theorem dX1_ones_15 : decode cX1_ones 15 = .ok (.iand, 1) := by decide +kernel
theorem dX1_ones_16 : decode cX1_ones 16 = .ok (.istore_n 2, 1) := by decide +kernel
theorem dX1_ones_17 : decode cX1_ones 17 = .ok (.goto (-13), 3) := by decide +kernel
theorem dX1_ones_20 : decode cX1_ones 20 = .ok (.iload_n 1, 1) := by decide +kernel
theorem dX1_ones_21 : decode cX1_ones 21 = .ok (.ireturn, 1) := by decide +kernel
theorem dX1_size_0 : decode cX1_size 0 = .ok (.iload_n 0, 1) := by decide +kernel
theorem dX1_size_1 : decode cX1_size 1 = .ok (.ifCond .ge 8, 3) := by decide +kernel
theorem dX1_size_4 : decode cX1_size 4 = .ok (.iload_n 0, 1) := by decide +kernel
theorem dX1_size_5 : decode cX1_size 5 = .ok (.ineg, 1) := by decide +kernel
theorem dX1_size_6 : decode cX1_size 6 = .ok (.goto 4, 3) := by decide +kernel
theorem dX1_size_9 : decode cX1_size 9 = .ok (.iload_n 0, 1) := by decide +kernel
theorem dX1_size_10 : decode cX1_size 10 = .ok (.ireturn, 1) := by decide +kernel
set_option maxRecDepth 20000 in
theorem ggX1_offOf_X1_ones : GoodIn wsX1_offOf wsX1_ones := goodIn_r _ [4] (by decide +kernel) (by decide +kernel)
set_option maxRecDepth 20000 in
theorem gX1_offOf_X1_ones : GoodIn wsX1_offOf (va_wsS RX1 79 yX1_ones wsX1_ones) := goodIn_app (goodIn_of _ (by decide +kernel)) ggX1_offOf_X1_ones
set_option maxRecDepth 20000 in
theorem ggX1_offOf_X1_size : GoodIn wsX1_offOf wsX1_size := goodIn_r _ [7] (by decide +kernel) (by decide +kernel)
set_option maxRecDepth 20000 in
theorem gX1_offOf_X1_size : GoodIn wsX1_offOf (va_wsS RX1 82 yX1_size wsX1_size) := goodIn_app (goodIn_of _ (by decide +kernel)) ggX1_offOf_X1_size
theorem dX1_offOf_0 : decode cX1_offOf 0 = .ok (.iconst 2, 1) := by decide +kernel
theorem dX1_offOf_1 : decode cX1_offOf 1 = .ok (.iload_n 0, 1) := by decide +kernel
theorem dX1_offOf_2 : decode cX1_offOf 2 = .ok (.iload_n 1, 1) := by decide +kernel
theorem dX1_offOf_3 : decode cX1_offOf 3 = .ok (.iand, 1) := by decide +kernel
theorem dX1_offOf_4 : decode cX1_offOf 4 = .ok (.invokestatic 79, 3) := by decide +kernel
theorem dX1_offOf_7 : decode cX1_offOf 7 = .ok (.imul, 1) := by decide +kernel
theorem dX1_offOf_8 : decode cX1_offOf 8 = .ok (.iload_n 1, 1) := by decide +kernel
theorem dX1_offOf_9 : decode cX1_offOf 9 = .ok (.invokestatic 79, 3) := by decide +kernel
theorem dX1_offOf_12 : decode cX1_offOf 12 = .ok (.isub, 1) := by decide +kernel
theorem dX1_offOf_13 : decode cX1_offOf 13 = .ok (.invokestatic 82, 3) := by decide +kernel
theorem dX1_offOf_16 : decode cX1_offOf 16 = .ok (.ireturn, 1) := by decide +kernel
set_option maxRecDepth 20000 in
theorem ggX1_isColouring_X1_in : GoodIn wsX1_isColouring wsX1_in := goodIn_r _ [5] (by decide +kernel) (by decide +kernel)
set_option maxRecDepth 20000 in
theorem gX1_isColouring_X1_in : GoodIn wsX1_isColouring (va_wsS RX1 44 yX1_in wsX1_in) := goodIn_app (goodIn_of _ (by decide +kernel)) ggX1_isColouring_X1_in
theorem dX1_isColouring_0 : decode cX1_isColouring 0 = .ok (.iload_n 1, 1) := by decide +kernel
theorem dX1_isColouring_1 : decode cX1_isColouring 1 = .ok (.iconst 0, 1) := by decide +kernel
theorem dX1_isColouring_2 : decode cX1_isColouring 2 = .ok (.iconst 1, 1) := by decide +kernel
theorem dX1_isColouring_3 : decode cX1_isColouring 3 = .ok (.aload_n 0, 1) := by decide +kernel
theorem dX1_isColouring_4 : decode cX1_isColouring 4 = .ok (.getfield 7, 3) := by decide +kernel
theorem dX1_isColouring_7 : decode cX1_isColouring 7 = .ok (.ishl, 1) := by decide +kernel
theorem dX1_isColouring_8 : decode cX1_isColouring 8 = .ok (.iconst 1, 1) := by decide +kernel
theorem dX1_isColouring_9 : decode cX1_isColouring 9 = .ok (.isub, 1) := by decide +kernel
theorem dX1_isColouring_10 : decode cX1_isColouring 10 = .ok (.invokestatic 44, 3) := by decide +kernel
theorem dX1_isColouring_13 : decode cX1_isColouring 13 = .ok (.ireturn, 1) := by decide +kernel
set_option maxRecDepth 20000 in
theorem ggX1_off_X1_isColouring : GoodIn wsX1_off wsX1_isColouring := goodIn_r _ [5, 6, 7, 8, 4, 9, 40, 41, 42, 43, 44, 45, 46, 47, 48, 49, 50, 51, 52, 53, 54, 55] (by decide +kernel) (by decide +kernel)
set_option maxRecDepth 20000 in
theorem gX1_off_X1_isColouring : GoodIn wsX1_off (wsV RX1 85 RX1 yX1_isColouring wsX1_isColouring) := goodIn_app (goodIn_of _ (by decide +kernel)) ggX1_off_X1_isColouring
set_option maxRecDepth 20000 in
theorem ggX1_off_X1_isHeap : GoodIn wsX1_off wsX1_isHeap := goodIn_r _ [13, 14, 7, 8, 4, 9, 40, 41, 42, 43, 44, 45, 46, 47, 48, 49, 50, 51, 52, 53, 54, 55] (by decide +kernel) (by decide +kernel)
set_option maxRecDepth 20000 in
theorem gX1_off_X1_isHeap : GoodIn wsX1_off (wsV RX1 59 RX1 yX1_isHeap wsX1_isHeap) := goodIn_app (goodIn_of _ (by decide +kernel)) ggX1_off_X1_isHeap
set_option maxRecDepth 20000 in
theorem ggX1_off_X1_bitsOf : GoodIn wsX1_off wsX1_bitsOf := goodIn_r _ [18, 6, 19, 20, 21, 4, 22, 23, 24, 25, 7, 8, 9, 26, 27, 28, 29, 30, 40, 41, 42, 43, 44, 45, 46, 47, 48, 49, 50, 51, 52, 53, 54, 55] (by decide +kernel) (by decide +kernel)
set_option maxRecDepth 20000 in
theorem gX1_off_X1_bitsOf : GoodIn wsX1_off (wsV RX1 76 RX1 yX1_bitsOf wsX1_bitsOf) := goodIn_app (goodIn_of _ (by decide +kernel)) ggX1_off_X1_bitsOf
set_option maxRecDepth 20000 in
theorem ggX1_off_X1_offOf : GoodIn wsX1_off wsX1_offOf := goodIn_r _ [33, 34, 35, 4, 36, 37, 38, 39] (by decide +kernel) (by decide +kernel)
set_option maxRecDepth 20000 in
theorem gX1_off_X1_offOf : GoodIn wsX1_off (va_wsS RX1 88 yX1_offOf wsX1_offOf) := goodIn_app (goodIn_of _ (by decide +kernel)) ggX1_off_X1_offOf
theorem dX1_off_0 : decode cX1_off 0 = .ok (.aload_n 0, 1) := by decide +kernel
theorem dX1_off_1 : decode cX1_off 1 = .ok (.iload_n 1, 1) := by decide +kernel
theorem dX1_off_2 : decode cX1_off 2 = .ok (.invokevirtual 85, 3) := by decide +kernel
theorem dX1_off_5 : decode cX1_off 5 = .ok (.ifCond .eq 23, 3) := by decide +kernel
theorem dX1_off_8 : decode cX1_off 8 = .ok (.aload_n 0, 1) := by decide +kernel
theorem dX1_off_9 : decode cX1_off 9 = .ok (.iload_n 2, 1) := by decide +kernel
theorem dX1_off_10 : decode cX1_off 10 = .ok (.invokevirtual 59, 3) := by decide +kernel
theorem dX1_off_13 : decode cX1_off 13 = .ok (.ifCond .eq 15, 3) := by decide +kernel
theorem dX1_off_16 : decode cX1_off 16 = .ok (.iload_n 1, 1) := by decide +kernel
theorem dX1_off_17 : decode cX1_off 17 = .ok (.aload_n 0, 1) := by decide +kernel
theorem dX1_off_18 : decode cX1_off 18 = .ok (.iload_n 2, 1) := by decide +kernel
theorem dX1_off_19 : decode cX1_off 19 = .ok (.invokevirtual 76, 3) := by decide +kernel
theorem dX1_off_22 : decode cX1_off 22 = .ok (.invokestatic 88, 3) := by decide +kernel
theorem dX1_off_25 : decode cX1_off 25 = .ok (.goto 4, 3) := by decide +kernel
theorem dX1_off_28 : decode cX1_off 28 = .ok (.iconst (-1), 1) := by decide +kernel
theorem dX1_off_29 : decode cX1_off 29 = .ok (.ireturn, 1) := by decide +kernel
set_option maxRecDepth 20000 in
theorem ggX1_collect_X1_bitsOf : GoodIn wsX1_collect wsX1_bitsOf := goodIn_r _ [7, 8, 9, 10, 11, 6, 12, 13, 14, 15, 16, 17, 18, 19, 20, 21, 22, 23, 24, 25, 26, 27, 28, 29, 30, 31, 32, 33, 34, 35, 36, 37, 38, 39] (by decide +kernel) (by decide +kernel)
set_option maxRecDepth 20000 in
theorem gX1_collect_X1_bitsOf : GoodIn wsX1_collect (wsV RX1 76 RX1 yX1_bitsOf wsX1_bitsOf) := goodIn_app (goodIn_of _ (by decide +kernel)) ggX1_collect_X1_bitsOf
theorem dX1_collect_0 : decode cX1_collect 0 = .ok (.iconst 0, 1) := by decide +kernel
theorem dX1_collect_1 : decode cX1_collect 1 = .ok (.istore_n 1, 1) := by decide +kernel
theorem dX1_collect_2 : decode cX1_collect 2 = .ok (.iload_n 1, 1) := by decide +kernel
theorem dX1_collect_3 : decode cX1_collect 3 = .ok (.aload_n 0, 1) := by decide +kernel
theorem dX1_collect_4 : decode cX1_collect 4 = .ok (.getfield 41, 3) := by decide +kernel
theorem dX1_collect_7 : decode cX1_collect 7 = .ok (.if_icmp .ge 20, 3) := by decide +kernel
theorem dX1_collect_10 : decode cX1_collect 10 = .ok (.aload_n 0, 1) := by decide +kernel
theorem dX1_collect_11 : decode cX1_collect 11 = .ok (.getfield 35, 3) := by decide +kernel
theorem dX1_collect_14 : decode cX1_collect 14 = .ok (.iload_n 1, 1) := by decide +kernel
theorem dX1_collect_15 : decode cX1_collect 15 = .ok (.aload_n 0, 1) := by decide +kernel
theorem dX1_collect_16 : decode cX1_collect 16 = .ok (.iload_n 1, 1) := by decide +kernel
theorem dX1_collect_17 : decode cX1_collect 17 = .ok (.invokevirtual 76, 3) := by decide +kernel
theorem dX1_collect_20 : decode cX1_collect 20 = .ok (.iastore, 1) := by decide +kernel
theorem dX1_collect_21 : decode cX1_collect 21 = .ok (.iinc 1 1, 3) := by decide +kernel
theorem dX1_collect_24 : decode cX1_collect 24 = .ok (.goto (-22), 3) := by decide +kernel
theorem dX1_collect_27 : decode cX1_collect 27 = .ok (.return_, 1) := by decide +kernel
set_option maxRecDepth 20000 in
theorem ggX1_worstOf_X1_offOf : GoodIn wsX1_worstOf wsX1_offOf := goodIn_r _ [6, 7, 8, 5, 9, 10, 11, 12] (by decide +kernel) (by decide +kernel)
set_option maxRecDepth 20000 in
theorem gX1_worstOf_X1_offOf : GoodIn wsX1_worstOf (va_wsS RX1 88 yX1_offOf wsX1_offOf) := goodIn_app (goodIn_of _ (by decide +kernel)) ggX1_worstOf_X1_offOf
theorem dX1_worstOf_0 : decode cX1_worstOf 0 = .ok (.iconst 0, 1) := by decide +kernel
theorem dX1_worstOf_1 : decode cX1_worstOf 1 = .ok (.istore_n 2, 1) := by decide +kernel
theorem dX1_worstOf_2 : decode cX1_worstOf 2 = .ok (.iconst 0, 1) := by decide +kernel
theorem dX1_worstOf_3 : decode cX1_worstOf 3 = .ok (.istore_n 3, 1) := by decide +kernel
theorem dX1_worstOf_4 : decode cX1_worstOf 4 = .ok (.iload_n 3, 1) := by decide +kernel
theorem dX1_worstOf_5 : decode cX1_worstOf 5 = .ok (.aload_n 0, 1) := by decide +kernel
theorem dX1_worstOf_6 : decode cX1_worstOf 6 = .ok (.getfield 41, 3) := by decide +kernel
theorem dX1_worstOf_9 : decode cX1_worstOf 9 = .ok (.if_icmp .ge 34, 3) := by decide +kernel
theorem dX1_worstOf_12 : decode cX1_worstOf 12 = .ok (.iload_n 1, 1) := by decide +kernel
theorem dX1_worstOf_13 : decode cX1_worstOf 13 = .ok (.aload_n 0, 1) := by decide +kernel
theorem dX1_worstOf_14 : decode cX1_worstOf 14 = .ok (.getfield 35, 3) := by decide +kernel
theorem dX1_worstOf_17 : decode cX1_worstOf 17 = .ok (.iload_n 3, 1) := by decide +kernel
theorem dX1_worstOf_18 : decode cX1_worstOf 18 = .ok (.iaload, 1) := by decide +kernel
theorem dX1_worstOf_19 : decode cX1_worstOf 19 = .ok (.invokestatic 88, 3) := by decide +kernel
theorem dX1_worstOf_22 : decode cX1_worstOf 22 = .ok (.istore 4, 2) := by decide +kernel
theorem dX1_worstOf_24 : decode cX1_worstOf 24 = .ok (.iload 4, 2) := by decide +kernel
theorem dX1_worstOf_26 : decode cX1_worstOf 26 = .ok (.iload_n 2, 1) := by decide +kernel
theorem dX1_worstOf_27 : decode cX1_worstOf 27 = .ok (.if_icmp .le 8, 3) := by decide +kernel
theorem dX1_worstOf_30 : decode cX1_worstOf 30 = .ok (.iload 4, 2) := by decide +kernel
theorem dX1_worstOf_32 : decode cX1_worstOf 32 = .ok (.goto 4, 3) := by decide +kernel
theorem dX1_worstOf_35 : decode cX1_worstOf 35 = .ok (.iload_n 2, 1) := by decide +kernel
theorem dX1_worstOf_36 : decode cX1_worstOf 36 = .ok (.istore_n 2, 1) := by decide +kernel
theorem dX1_worstOf_37 : decode cX1_worstOf 37 = .ok (.iinc 3 1, 3) := by decide +kernel
theorem dX1_worstOf_40 : decode cX1_worstOf 40 = .ok (.goto (-36), 3) := by decide +kernel
theorem dX1_worstOf_43 : decode cX1_worstOf 43 = .ok (.iload_n 2, 1) := by decide +kernel
theorem dX1_worstOf_44 : decode cX1_worstOf 44 = .ok (.ireturn, 1) := by decide +kernel
set_option maxRecDepth 20000 in
theorem ggX1_squaresOf_X1_offOf : GoodIn wsX1_squaresOf wsX1_offOf := goodIn_r _ [6, 7, 8, 5, 9, 10, 11, 12] (by decide +kernel) (by decide +kernel)
set_option maxRecDepth 20000 in
theorem gX1_squaresOf_X1_offOf : GoodIn wsX1_squaresOf (va_wsS RX1 88 yX1_offOf wsX1_offOf) := goodIn_app (goodIn_of _ (by decide +kernel)) ggX1_squaresOf_X1_offOf
theorem dX1_squaresOf_0 : decode cX1_squaresOf 0 = .ok (.iconst 0, 1) := by decide +kernel
theorem dX1_squaresOf_1 : decode cX1_squaresOf 1 = .ok (.istore_n 2, 1) := by decide +kernel
theorem dX1_squaresOf_2 : decode cX1_squaresOf 2 = .ok (.iconst 0, 1) := by decide +kernel
theorem dX1_squaresOf_3 : decode cX1_squaresOf 3 = .ok (.istore_n 3, 1) := by decide +kernel
theorem dX1_squaresOf_4 : decode cX1_squaresOf 4 = .ok (.iload_n 3, 1) := by decide +kernel
theorem dX1_squaresOf_5 : decode cX1_squaresOf 5 = .ok (.aload_n 0, 1) := by decide +kernel
theorem dX1_squaresOf_6 : decode cX1_squaresOf 6 = .ok (.getfield 41, 3) := by decide +kernel
theorem dX1_squaresOf_9 : decode cX1_squaresOf 9 = .ok (.if_icmp .ge 29, 3) := by decide +kernel
theorem dX1_squaresOf_12 : decode cX1_squaresOf 12 = .ok (.iload_n 1, 1) := by decide +kernel
theorem dX1_squaresOf_13 : decode cX1_squaresOf 13 = .ok (.aload_n 0, 1) := by decide +kernel
theorem dX1_squaresOf_14 : decode cX1_squaresOf 14 = .ok (.getfield 35, 3) := by decide +kernel
theorem dX1_squaresOf_17 : decode cX1_squaresOf 17 = .ok (.iload_n 3, 1) := by decide +kernel
theorem dX1_squaresOf_18 : decode cX1_squaresOf 18 = .ok (.iaload, 1) := by decide +kernel
theorem dX1_squaresOf_19 : decode cX1_squaresOf 19 = .ok (.invokestatic 88, 3) := by decide +kernel
theorem dX1_squaresOf_22 : decode cX1_squaresOf 22 = .ok (.istore 4, 2) := by decide +kernel
theorem dX1_squaresOf_24 : decode cX1_squaresOf 24 = .ok (.iload_n 2, 1) := by decide +kernel
theorem dX1_squaresOf_25 : decode cX1_squaresOf 25 = .ok (.iload 4, 2) := by decide +kernel
theorem dX1_squaresOf_27 : decode cX1_squaresOf 27 = .ok (.iload 4, 2) := by decide +kernel
theorem dX1_squaresOf_29 : decode cX1_squaresOf 29 = .ok (.imul, 1) := by decide +kernel
theorem dX1_squaresOf_30 : decode cX1_squaresOf 30 = .ok (.iadd, 1) := by decide +kernel
theorem dX1_squaresOf_31 : decode cX1_squaresOf 31 = .ok (.istore_n 2, 1) := by decide +kernel
theorem dX1_squaresOf_32 : decode cX1_squaresOf 32 = .ok (.iinc 3 1, 3) := by decide +kernel
theorem dX1_squaresOf_35 : decode cX1_squaresOf 35 = .ok (.goto (-31), 3) := by decide +kernel
theorem dX1_squaresOf_38 : decode cX1_squaresOf 38 = .ok (.iload_n 2, 1) := by decide +kernel
theorem dX1_squaresOf_39 : decode cX1_squaresOf 39 = .ok (.ireturn, 1) := by decide +kernel
set_option maxRecDepth 20000 in
theorem ggX1_worst_X1_collect : GoodIn wsX1_worst wsX1_collect := goodIn_r _ [5, 6, 7, 8, 9, 10, 4, 11, 12, 13, 14, 15, 16, 17, 18, 19, 20, 21, 22, 23, 24, 25, 26, 27, 45, 46, 47, 48, 49, 50, 51, 52, 53, 54, 55, 56, 57, 58, 59, 60] (by decide +kernel) (by decide +kernel)
set_option maxRecDepth 20000 in
theorem gX1_worst_X1_collect : GoodIn wsX1_worst (wsV RX1 92 RX1 yX1_collect wsX1_collect) := goodIn_app (goodIn_of _ (by decide +kernel)) ggX1_worst_X1_collect
set_option maxRecDepth 20000 in
theorem ggX1_worst_X1_isColouring : GoodIn wsX1_worst wsX1_isColouring := goodIn_r _ [31, 12, 20, 21, 4, 22, 45, 46, 47, 48, 49, 50, 51, 52, 53, 54, 55, 56, 57, 58, 59, 60] (by decide +kernel) (by decide +kernel)
set_option maxRecDepth 20000 in
theorem gX1_worst_X1_isColouring : GoodIn wsX1_worst (wsV RX1 85 RX1 yX1_isColouring wsX1_isColouring) := goodIn_app (goodIn_of _ (by decide +kernel)) ggX1_worst_X1_isColouring
set_option maxRecDepth 20000 in
theorem ggX1_worst_X1_worstOf : GoodIn wsX1_worst wsX1_worstOf := goodIn_r _ [35, 6, 7, 36, 37, 4, 38, 39, 40, 41, 42, 43, 44, 45, 46, 47, 48, 49, 50, 51, 52, 53, 54, 55, 56, 57, 58, 59, 60] (by decide +kernel) (by decide +kernel)
set_option maxRecDepth 20000 in
theorem gX1_worst_X1_worstOf : GoodIn wsX1_worst (wsV RX1 95 RX1 yX1_worstOf wsX1_worstOf) := goodIn_app (goodIn_of _ (by decide +kernel)) ggX1_worst_X1_worstOf
theorem dX1_worst_0 : decode cX1_worst 0 = .ok (.aload_n 0, 1) := by decide +kernel
theorem dX1_worst_1 : decode cX1_worst 1 = .ok (.invokevirtual 92, 3) := by decide +kernel
theorem dX1_worst_4 : decode cX1_worst 4 = .ok (.aload_n 0, 1) := by decide +kernel
theorem dX1_worst_5 : decode cX1_worst 5 = .ok (.iload_n 1, 1) := by decide +kernel
theorem dX1_worst_6 : decode cX1_worst 6 = .ok (.invokevirtual 85, 3) := by decide +kernel
theorem dX1_worst_9 : decode cX1_worst 9 = .ok (.ifCond .eq 11, 3) := by decide +kernel
theorem dX1_worst_12 : decode cX1_worst 12 = .ok (.aload_n 0, 1) := by decide +kernel
theorem dX1_worst_13 : decode cX1_worst 13 = .ok (.iload_n 1, 1) := by decide +kernel
theorem dX1_worst_14 : decode cX1_worst 14 = .ok (.invokevirtual 95, 3) := by decide +kernel
theorem dX1_worst_17 : decode cX1_worst 17 = .ok (.goto 4, 3) := by decide +kernel
theorem dX1_worst_20 : decode cX1_worst 20 = .ok (.iconst (-1), 1) := by decide +kernel
theorem dX1_worst_21 : decode cX1_worst 21 = .ok (.ireturn, 1) := by decide +kernel
set_option maxRecDepth 20000 in
theorem ggX1_squares_X1_collect : GoodIn wsX1_squares wsX1_collect := goodIn_r _ [5, 6, 7, 8, 9, 10, 4, 11, 12, 13, 14, 15, 16, 17, 18, 19, 20, 21, 22, 23, 24, 25, 26, 27, 45, 46, 47, 48, 49, 50, 51, 52, 53, 54, 55, 56, 57, 58, 59, 60] (by decide +kernel) (by decide +kernel)
set_option maxRecDepth 20000 in
theorem gX1_squares_X1_collect : GoodIn wsX1_squares (wsV RX1 92 RX1 yX1_collect wsX1_collect) := goodIn_app (goodIn_of _ (by decide +kernel)) ggX1_squares_X1_collect
set_option maxRecDepth 20000 in
theorem ggX1_squares_X1_isColouring : GoodIn wsX1_squares wsX1_isColouring := goodIn_r _ [31, 12, 20, 21, 4, 22, 45, 46, 47, 48, 49, 50, 51, 52, 53, 54, 55, 56, 57, 58, 59, 60] (by decide +kernel) (by decide +kernel)
set_option maxRecDepth 20000 in
theorem gX1_squares_X1_isColouring : GoodIn wsX1_squares (wsV RX1 85 RX1 yX1_isColouring wsX1_isColouring) := goodIn_app (goodIn_of _ (by decide +kernel)) ggX1_squares_X1_isColouring
set_option maxRecDepth 20000 in
theorem ggX1_squares_X1_squaresOf : GoodIn wsX1_squares wsX1_squaresOf := goodIn_r _ [35, 6, 7, 36, 37, 4, 38, 39, 40, 41, 42, 43, 44, 45, 46, 47, 48, 49, 50, 51, 52, 53, 54, 55, 56, 57, 58, 59, 60] (by decide +kernel) (by decide +kernel)
set_option maxRecDepth 20000 in
theorem gX1_squares_X1_squaresOf : GoodIn wsX1_squares (wsV RX1 98 RX1 yX1_squaresOf wsX1_squaresOf) := goodIn_app (goodIn_of _ (by decide +kernel)) ggX1_squares_X1_squaresOf
theorem dX1_squares_0 : decode cX1_squares 0 = .ok (.aload_n 0, 1) := by decide +kernel
theorem dX1_squares_1 : decode cX1_squares 1 = .ok (.invokevirtual 92, 3) := by decide +kernel
theorem dX1_squares_4 : decode cX1_squares 4 = .ok (.aload_n 0, 1) := by decide +kernel
theorem dX1_squares_5 : decode cX1_squares 5 = .ok (.iload_n 1, 1) := by decide +kernel
theorem dX1_squares_6 : decode cX1_squares 6 = .ok (.invokevirtual 85, 3) := by decide +kernel
theorem dX1_squares_9 : decode cX1_squares 9 = .ok (.ifCond .eq 11, 3) := by decide +kernel
theorem dX1_squares_12 : decode cX1_squares 12 = .ok (.aload_n 0, 1) := by decide +kernel
theorem dX1_squares_13 : decode cX1_squares 13 = .ok (.iload_n 1, 1) := by decide +kernel
theorem dX1_squares_14 : decode cX1_squares 14 = .ok (.invokevirtual 98, 3) := by decide +kernel
theorem dX1_squares_17 : decode cX1_squares 17 = .ok (.goto 4, 3) := by decide +kernel
theorem dX1_squares_20 : decode cX1_squares 20 = .ok (.iconst (-1), 1) := by decide +kernel
theorem dX1_squares_21 : decode cX1_squares 21 = .ok (.ireturn, 1) := by decide +kernel
set_option maxRecDepth 20000 in
theorem ggX1_times_X1_holds : GoodIn wsX1_times wsX1_holds := goodIn_r _ [7, 8, 9, 10, 11, 12, 6, 13, 14, 15, 16, 17, 18, 19, 20, 21, 22, 23, 24, 25, 26, 27, 28, 29, 30, 31, 32, 33, 34] (by decide +kernel) (by decide +kernel)
set_option maxRecDepth 20000 in
theorem gX1_times_X1_holds : GoodIn wsX1_times (wsV RX1 72 RX1 yX1_holds wsX1_holds) := goodIn_app (goodIn_of _ (by decide +kernel)) ggX1_times_X1_holds
theorem dX1_times_0 : decode cX1_times 0 = .ok (.iconst 0, 1) := by decide +kernel
theorem dX1_times_1 : decode cX1_times 1 = .ok (.istore_n 1, 1) := by decide +kernel
theorem dX1_times_2 : decode cX1_times 2 = .ok (.iconst 0, 1) := by decide +kernel
theorem dX1_times_3 : decode cX1_times 3 = .ok (.istore_n 2, 1) := by decide +kernel
theorem dX1_times_4 : decode cX1_times 4 = .ok (.iload_n 2, 1) := by decide +kernel
theorem dX1_times_5 : decode cX1_times 5 = .ok (.aload_n 0, 1) := by decide +kernel
theorem dX1_times_6 : decode cX1_times 6 = .ok (.getfield 7, 3) := by decide +kernel
theorem dX1_times_9 : decode cX1_times 9 = .ok (.if_icmp .ge 58, 3) := by decide +kernel
theorem dX1_times_12 : decode cX1_times 12 = .ok (.iconst 0, 1) := by decide +kernel
theorem dX1_times_13 : decode cX1_times 13 = .ok (.istore_n 3, 1) := by decide +kernel
theorem dX1_times_14 : decode cX1_times 14 = .ok (.iconst 0, 1) := by decide +kernel
theorem dX1_times_15 : decode cX1_times 15 = .ok (.istore 4, 2) := by decide +kernel
theorem dX1_times_17 : decode cX1_times 17 = .ok (.iload 4, 2) := by decide +kernel
theorem dX1_times_19 : decode cX1_times 19 = .ok (.aload_n 0, 1) := by decide +kernel
theorem dX1_times_20 : decode cX1_times 20 = .ok (.getfield 41, 3) := by decide +kernel
theorem dX1_times_23 : decode cX1_times 23 = .ok (.if_icmp .ge 27, 3) := by decide +kernel
theorem dX1_times_26 : decode cX1_times 26 = .ok (.iload_n 3, 1) := by decide +kernel
theorem dX1_times_27 : decode cX1_times 27 = .ok (.aload_n 0, 1) := by decide +kernel
theorem dX1_times_28 : decode cX1_times 28 = .ok (.iload 4, 2) := by decide +kernel
theorem dX1_times_30 : decode cX1_times 30 = .ok (.iload_n 2, 1) := by decide +kernel
theorem dX1_times_31 : decode cX1_times 31 = .ok (.invokevirtual 72, 3) := by decide +kernel
theorem dX1_times_34 : decode cX1_times 34 = .ok (.ifCond .eq 7, 3) := by decide +kernel
theorem dX1_times_37 : decode cX1_times 37 = .ok (.iconst 1, 1) := by decide +kernel
theorem dX1_times_38 : decode cX1_times 38 = .ok (.goto 4, 3) := by decide +kernel
theorem dX1_times_41 : decode cX1_times 41 = .ok (.iconst 0, 1) := by decide +kernel
theorem dX1_times_42 : decode cX1_times 42 = .ok (.iadd, 1) := by decide +kernel
theorem dX1_times_43 : decode cX1_times 43 = .ok (.istore_n 3, 1) := by decide +kernel
theorem dX1_times_44 : decode cX1_times 44 = .ok (.iinc 4 1, 3) := by decide +kernel
theorem dX1_times_47 : decode cX1_times 47 = .ok (.goto (-30), 3) := by decide +kernel
theorem dX1_times_50 : decode cX1_times 50 = .ok (.iload_n 3, 1) := by decide +kernel
theorem dX1_times_51 : decode cX1_times 51 = .ok (.iload_n 1, 1) := by decide +kernel
theorem dX1_times_52 : decode cX1_times 52 = .ok (.if_icmp .le 7, 3) := by decide +kernel
theorem dX1_times_55 : decode cX1_times 55 = .ok (.iload_n 3, 1) := by decide +kernel
theorem dX1_times_56 : decode cX1_times 56 = .ok (.goto 4, 3) := by decide +kernel
theorem dX1_times_59 : decode cX1_times 59 = .ok (.iload_n 1, 1) := by decide +kernel
theorem dX1_times_60 : decode cX1_times 60 = .ok (.istore_n 1, 1) := by decide +kernel
theorem dX1_times_61 : decode cX1_times 61 = .ok (.iinc 2 1, 3) := by decide +kernel
theorem dX1_times_64 : decode cX1_times 64 = .ok (.goto (-60), 3) := by decide +kernel
theorem dX1_times_67 : decode cX1_times 67 = .ok (.iload_n 1, 1) := by decide +kernel
theorem dX1_times_68 : decode cX1_times 68 = .ok (.ireturn, 1) := by decide +kernel
theorem dX1_keeps_0 : decode cX1_keeps 0 = .ok (.iconst 1, 1) := by decide +kernel
theorem dX1_keeps_1 : decode cX1_keeps 1 = .ok (.istore_n 2, 1) := by decide +kernel
theorem dX1_keeps_2 : decode cX1_keeps 2 = .ok (.iconst 0, 1) := by decide +kernel
theorem dX1_keeps_3 : decode cX1_keeps 3 = .ok (.istore_n 3, 1) := by decide +kernel
theorem dX1_keeps_4 : decode cX1_keeps 4 = .ok (.iload_n 3, 1) := by decide +kernel
theorem dX1_keeps_5 : decode cX1_keeps 5 = .ok (.aload_n 0, 1) := by decide +kernel
theorem dX1_keeps_6 : decode cX1_keeps 6 = .ok (.getfield 7, 3) := by decide +kernel
theorem dX1_keeps_9 : decode cX1_keeps 9 = .ok (.if_icmp .ge 42, 3) := by decide +kernel
theorem dX1_keeps_12 : decode cX1_keeps 12 = .ok (.iload_n 2, 1) := by decide +kernel
theorem dX1_keeps_13 : decode cX1_keeps 13 = .ok (.ifCond .eq 30, 3) := by decide +kernel
theorem dX1_keeps_16 : decode cX1_keeps 16 = .ok (.aload_n 0, 1) := by decide +kernel
theorem dX1_keeps_17 : decode cX1_keeps 17 = .ok (.getfield 17, 3) := by decide +kernel
theorem dX1_keeps_20 : decode cX1_keeps 20 = .ok (.iload_n 3, 1) := by decide +kernel
theorem dX1_keeps_21 : decode cX1_keeps 21 = .ok (.iaload, 1) := by decide +kernel
theorem dX1_keeps_22 : decode cX1_keeps 22 = .ok (.ifCond .lt 17, 3) := by decide +kernel
theorem dX1_keeps_25 : decode cX1_keeps 25 = .ok (.aload_n 0, 1) := by decide +kernel
theorem dX1_keeps_26 : decode cX1_keeps 26 = .ok (.getfield 17, 3) := by decide +kernel
theorem dX1_keeps_29 : decode cX1_keeps 29 = .ok (.iload_n 3, 1) := by decide +kernel
theorem dX1_keeps_30 : decode cX1_keeps 30 = .ok (.iaload, 1) := by decide +kernel
theorem dX1_keeps_31 : decode cX1_keeps 31 = .ok (.iload_n 1, 1) := by decide +kernel
theorem dX1_keeps_32 : decode cX1_keeps 32 = .ok (.iload_n 3, 1) := by decide +kernel
theorem dX1_keeps_33 : decode cX1_keeps 33 = .ok (.ishr, 1) := by decide +kernel
theorem dX1_keeps_34 : decode cX1_keeps 34 = .ok (.iconst 1, 1) := by decide +kernel
theorem dX1_keeps_35 : decode cX1_keeps 35 = .ok (.iand, 1) := by decide +kernel
theorem dX1_keeps_36 : decode cX1_keeps 36 = .ok (.if_icmp .ne 7, 3) := by decide +kernel
theorem dX1_keeps_39 : decode cX1_keeps 39 = .ok (.iconst 1, 1) := by decide +kernel
theorem dX1_keeps_40 : decode cX1_keeps 40 = .ok (.goto 4, 3) := by decide +kernel
theorem dX1_keeps_43 : decode cX1_keeps 43 = .ok (.iconst 0, 1) := by decide +kernel
theorem dX1_keeps_44 : decode cX1_keeps 44 = .ok (.istore_n 2, 1) := by decide +kernel
theorem dX1_keeps_45 : decode cX1_keeps 45 = .ok (.iinc 3 1, 3) := by decide +kernel
theorem dX1_keeps_48 : decode cX1_keeps 48 = .ok (.goto (-44), 3) := by decide +kernel
theorem dX1_keeps_51 : decode cX1_keeps 51 = .ok (.iload_n 2, 1) := by decide +kernel
theorem dX1_keeps_52 : decode cX1_keeps 52 = .ok (.ireturn, 1) := by decide +kernel
set_option maxRecDepth 20000 in
theorem ggX1_goThrough_X1_collect : GoodIn wsX1_goThrough wsX1_collect := goodIn_r _ [10, 11, 12, 13, 14, 15, 9, 16, 3, 17, 18, 19, 20, 21, 22, 23, 24, 25, 26, 27, 28, 29, 30, 31, 54, 55, 56, 57, 58, 59, 60, 61, 62, 63, 64, 65, 66, 67, 68, 69] (by decide +kernel) (by decide +kernel)
set_option maxRecDepth 20000 in
theorem gX1_goThrough_X1_collect : GoodIn wsX1_goThrough (wsV RX1 92 RX1 yX1_collect wsX1_collect) := goodIn_app (goodIn_of _ (by decide +kernel)) ggX1_goThrough_X1_collect
set_option maxRecDepth 20000 in
theorem ggX1_goThrough_X1_keeps : GoodIn wsX1_goThrough wsX1_keeps := goodIn_r _ [35, 3, 36, 54, 55, 56, 57, 58, 59, 60, 61, 62, 63, 64, 65, 66, 67, 68, 69] (by decide +kernel) (by decide +kernel)
set_option maxRecDepth 20000 in
theorem gX1_goThrough_X1_keeps : GoodIn wsX1_goThrough (wsV RX1 105 RX1 yX1_keeps wsX1_keeps) := goodIn_app (goodIn_of _ (by decide +kernel)) ggX1_goThrough_X1_keeps
set_option maxRecDepth 20000 in
theorem ggX1_goThrough_X1_worstOf : GoodIn wsX1_goThrough wsX1_worstOf := goodIn_r _ [40, 11, 12, 41, 42, 9, 43, 44, 45, 46, 47, 48, 49, 54, 55, 56, 57, 58, 59, 60, 61, 62, 63, 64, 65, 66, 67, 68, 69] (by decide +kernel) (by decide +kernel)
set_option maxRecDepth 20000 in
theorem gX1_goThrough_X1_worstOf : GoodIn wsX1_goThrough (wsV RX1 95 RX1 yX1_worstOf wsX1_worstOf) := goodIn_app (goodIn_of _ (by decide +kernel)) ggX1_goThrough_X1_worstOf
set_option maxRecDepth 20000 in
theorem ggX1_goThrough_X1_squaresOf : GoodIn wsX1_goThrough wsX1_squaresOf := goodIn_r _ [53, 11, 12, 41, 42, 9, 43, 44, 45, 46, 47, 48, 49, 54, 55, 56, 57, 58, 59, 60, 61, 62, 63, 64, 65, 66, 67, 68, 69] (by decide +kernel) (by decide +kernel)
set_option maxRecDepth 20000 in
theorem gX1_goThrough_X1_squaresOf : GoodIn wsX1_goThrough (wsV RX1 98 RX1 yX1_squaresOf wsX1_squaresOf) := goodIn_app (goodIn_of _ (by decide +kernel)) ggX1_goThrough_X1_squaresOf
theorem dX1_goThrough_0 : decode cX1_goThrough 0 = .ok (.aload_n 0, 1) := by decide +kernel
theorem dX1_goThrough_1 : decode cX1_goThrough 1 = .ok (.invokevirtual 92, 3) := by decide +kernel
theorem dX1_goThrough_4 : decode cX1_goThrough 4 = .ok (.sipush 1000, 3) := by decide +kernel
theorem dX1_goThrough_7 : decode cX1_goThrough 7 = .ok (.istore_n 1, 1) := by decide +kernel
theorem dX1_goThrough_8 : decode cX1_goThrough 8 = .ok (.aload_n 0, 1) := by decide +kernel
theorem dX1_goThrough_9 : decode cX1_goThrough 9 = .ok (.ldc 101, 2) := by decide +kernel
theorem dX1_goThrough_11 : decode cX1_goThrough 11 = .ok (.putfield 102, 3) := by decide +kernel
theorem dX1_goThrough_14 : decode cX1_goThrough 14 = .ok (.iconst 0, 1) := by decide +kernel
theorem dX1_goThrough_15 : decode cX1_goThrough 15 = .ok (.istore_n 2, 1) := by decide +kernel
theorem dX1_goThrough_16 : decode cX1_goThrough 16 = .ok (.iload_n 2, 1) := by decide +kernel
theorem dX1_goThrough_17 : decode cX1_goThrough 17 = .ok (.iconst 1, 1) := by decide +kernel
theorem dX1_goThrough_18 : decode cX1_goThrough 18 = .ok (.aload_n 0, 1) := by decide +kernel
theorem dX1_goThrough_19 : decode cX1_goThrough 19 = .ok (.getfield 7, 3) := by decide +kernel
theorem dX1_goThrough_22 : decode cX1_goThrough 22 = .ok (.ishl, 1) := by decide +kernel
theorem dX1_goThrough_23 : decode cX1_goThrough 23 = .ok (.if_icmp .ge 111, 3) := by decide +kernel
theorem dX1_goThrough_26 : decode cX1_goThrough 26 = .ok (.aload_n 0, 1) := by decide +kernel
theorem dX1_goThrough_27 : decode cX1_goThrough 27 = .ok (.iload_n 2, 1) := by decide +kernel
theorem dX1_goThrough_28 : decode cX1_goThrough 28 = .ok (.invokevirtual 105, 3) := by decide +kernel
theorem dX1_goThrough_31 : decode cX1_goThrough 31 = .ok (.ifCond .eq 97, 3) := by decide +kernel
theorem dX1_goThrough_34 : decode cX1_goThrough 34 = .ok (.aload_n 0, 1) := by decide +kernel
theorem dX1_goThrough_35 : decode cX1_goThrough 35 = .ok (.iload_n 2, 1) := by decide +kernel
theorem dX1_goThrough_36 : decode cX1_goThrough 36 = .ok (.invokevirtual 95, 3) := by decide +kernel
theorem dX1_goThrough_39 : decode cX1_goThrough 39 = .ok (.istore_n 3, 1) := by decide +kernel
theorem dX1_goThrough_40 : decode cX1_goThrough 40 = .ok (.aload_n 0, 1) := by decide +kernel
theorem dX1_goThrough_41 : decode cX1_goThrough 41 = .ok (.iload_n 2, 1) := by decide +kernel
theorem dX1_goThrough_42 : decode cX1_goThrough 42 = .ok (.invokevirtual 98, 3) := by decide +kernel
theorem dX1_goThrough_45 : decode cX1_goThrough 45 = .ok (.istore 4, 2) := by decide +kernel
theorem dX1_goThrough_47 : decode cX1_goThrough 47 = .ok (.aload_n 0, 1) := by decide +kernel
theorem dX1_goThrough_48 : decode cX1_goThrough 48 = .ok (.iload_n 3, 1) := by decide +kernel
theorem dX1_goThrough_49 : decode cX1_goThrough 49 = .ok (.iload_n 1, 1) := by decide +kernel
theorem dX1_goThrough_50 : decode cX1_goThrough 50 = .ok (.if_icmp .ge 7, 3) := by decide +kernel
theorem dX1_goThrough_53 : decode cX1_goThrough 53 = .ok (.iload_n 2, 1) := by decide +kernel
theorem dX1_goThrough_54 : decode cX1_goThrough 54 = .ok (.goto 7, 3) := by decide +kernel
theorem dX1_goThrough_57 : decode cX1_goThrough 57 = .ok (.aload_n 0, 1) := by decide +kernel
theorem dX1_goThrough_58 : decode cX1_goThrough 58 = .ok (.getfield 108, 3) := by decide +kernel
theorem dX1_goThrough_61 : decode cX1_goThrough 61 = .ok (.putfield 108, 3) := by decide +kernel
theorem dX1_goThrough_64 : decode cX1_goThrough 64 = .ok (.aload_n 0, 1) := by decide +kernel
theorem dX1_goThrough_65 : decode cX1_goThrough 65 = .ok (.iload_n 3, 1) := by decide +kernel
theorem dX1_goThrough_66 : decode cX1_goThrough 66 = .ok (.iload_n 1, 1) := by decide +kernel
theorem dX1_goThrough_67 : decode cX1_goThrough 67 = .ok (.if_icmp .ge 7, 3) := by decide +kernel
theorem dX1_goThrough_70 : decode cX1_goThrough 70 = .ok (.iconst 1, 1) := by decide +kernel
theorem dX1_goThrough_71 : decode cX1_goThrough 71 = .ok (.goto 21, 3) := by decide +kernel
theorem dX1_goThrough_74 : decode cX1_goThrough 74 = .ok (.iload_n 3, 1) := by decide +kernel
theorem dX1_goThrough_75 : decode cX1_goThrough 75 = .ok (.iload_n 1, 1) := by decide +kernel
theorem dX1_goThrough_76 : decode cX1_goThrough 76 = .ok (.if_icmp .ne 12, 3) := by decide +kernel
theorem dX1_goThrough_79 : decode cX1_goThrough 79 = .ok (.aload_n 0, 1) := by decide +kernel
theorem dX1_goThrough_80 : decode cX1_goThrough 80 = .ok (.getfield 111, 3) := by decide +kernel
theorem dX1_goThrough_83 : decode cX1_goThrough 83 = .ok (.iconst 1, 1) := by decide +kernel
theorem dX1_goThrough_84 : decode cX1_goThrough 84 = .ok (.iadd, 1) := by decide +kernel
theorem dX1_goThrough_85 : decode cX1_goThrough 85 = .ok (.goto 7, 3) := by decide +kernel
theorem dX1_goThrough_88 : decode cX1_goThrough 88 = .ok (.aload_n 0, 1) := by decide +kernel
theorem dX1_goThrough_89 : decode cX1_goThrough 89 = .ok (.getfield 111, 3) := by decide +kernel
theorem dX1_goThrough_92 : decode cX1_goThrough 92 = .ok (.putfield 111, 3) := by decide +kernel
theorem dX1_goThrough_95 : decode cX1_goThrough 95 = .ok (.iload_n 3, 1) := by decide +kernel
theorem dX1_goThrough_96 : decode cX1_goThrough 96 = .ok (.iload_n 1, 1) := by decide +kernel
theorem dX1_goThrough_97 : decode cX1_goThrough 97 = .ok (.if_icmp .ge 7, 3) := by decide +kernel
theorem dX1_goThrough_100 : decode cX1_goThrough 100 = .ok (.iload_n 3, 1) := by decide +kernel
theorem dX1_goThrough_101 : decode cX1_goThrough 101 = .ok (.goto 4, 3) := by decide +kernel
theorem dX1_goThrough_104 : decode cX1_goThrough 104 = .ok (.iload_n 1, 1) := by decide +kernel
theorem dX1_goThrough_105 : decode cX1_goThrough 105 = .ok (.istore_n 1, 1) := by decide +kernel
theorem dX1_goThrough_106 : decode cX1_goThrough 106 = .ok (.aload_n 0, 1) := by decide +kernel
theorem dX1_goThrough_107 : decode cX1_goThrough 107 = .ok (.iload 4, 2) := by decide +kernel
theorem dX1_goThrough_109 : decode cX1_goThrough 109 = .ok (.aload_n 0, 1) := by decide +kernel
theorem dX1_goThrough_110 : decode cX1_goThrough 110 = .ok (.getfield 102, 3) := by decide +kernel
theorem dX1_goThrough_113 : decode cX1_goThrough 113 = .ok (.if_icmp .ge 8, 3) := by decide +kernel
theorem dX1_goThrough_116 : decode cX1_goThrough 116 = .ok (.iload 4, 2) := by decide +kernel
theorem dX1_goThrough_118 : decode cX1_goThrough 118 = .ok (.goto 7, 3) := by decide +kernel
theorem dX1_goThrough_121 : decode cX1_goThrough 121 = .ok (.aload_n 0, 1) := by decide +kernel
theorem dX1_goThrough_122 : decode cX1_goThrough 122 = .ok (.getfield 102, 3) := by decide +kernel
theorem dX1_goThrough_125 : decode cX1_goThrough 125 = .ok (.putfield 102, 3) := by decide +kernel
theorem dX1_goThrough_128 : decode cX1_goThrough 128 = .ok (.iinc 2 1, 3) := by decide +kernel
theorem dX1_goThrough_131 : decode cX1_goThrough 131 = .ok (.goto (-115), 3) := by decide +kernel
theorem dX1_goThrough_134 : decode cX1_goThrough 134 = .ok (.iload_n 1, 1) := by decide +kernel
theorem dX1_goThrough_135 : decode cX1_goThrough 135 = .ok (.ireturn, 1) := by decide +kernel
set_option maxRecDepth 20000 in
theorem ggX1_least_X1_goThrough : GoodIn wsX1_least wsX1_goThrough := goodIn_r _ [5, 6, 7, 8, 9, 10, 11, 12, 13, 4, 14, 15, 16, 17, 18, 19, 20, 21, 22, 23, 24, 25, 26, 27, 28, 29, 30, 31, 32, 33, 34, 35, 36, 37, 38, 39, 40, 41, 42, 43, 44, 45, 46, 47, 48, 49, 50, 51, 52, 53, 54, 55, 56, 57, 58, 59, 60, 61, 62, 63, 64, 65, 66, 67, 68, 69, 70, 71, 72, 73] (by decide +kernel) (by decide +kernel)
set_option maxRecDepth 20000 in
theorem gX1_least_X1_goThrough : GoodIn wsX1_least (wsV RX1 114 RX1 yX1_goThrough wsX1_goThrough) := goodIn_app (goodIn_of _ (by decide +kernel)) ggX1_least_X1_goThrough
theorem dX1_least_0 : decode cX1_least 0 = .ok (.aload_n 0, 1) := by decide +kernel
theorem dX1_least_1 : decode cX1_least 1 = .ok (.invokevirtual 114, 3) := by decide +kernel
theorem dX1_least_4 : decode cX1_least 4 = .ok (.ireturn, 1) := by decide +kernel
set_option maxRecDepth 20000 in
theorem ggX1_first_X1_goThrough : GoodIn wsX1_first wsX1_goThrough := goodIn_r _ [6, 7, 8, 9, 1, 10, 11, 12, 13, 5, 14, 15, 16, 17, 18, 19, 20, 21, 22, 23, 24, 25, 26, 27, 28, 29, 30, 31, 32, 33, 34, 35, 36, 37, 38, 39, 40, 41, 42, 43, 44, 45, 46, 47, 48, 49, 50, 51, 52, 53, 54, 55, 56, 57, 58, 59, 60, 61, 62, 63, 64, 65, 66, 67, 68, 69, 70, 71, 72, 73] (by decide +kernel) (by decide +kernel)
set_option maxRecDepth 20000 in
theorem gX1_first_X1_goThrough : GoodIn wsX1_first (wsV RX1 114 RX1 yX1_goThrough wsX1_goThrough) := goodIn_app (goodIn_of _ (by decide +kernel)) ggX1_first_X1_goThrough
theorem dX1_first_0 : decode cX1_first 0 = .ok (.aload_n 0, 1) := by decide +kernel
theorem dX1_first_1 : decode cX1_first 1 = .ok (.invokevirtual 114, 3) := by decide +kernel
theorem dX1_first_4 : decode cX1_first 4 = .ok (.istore_n 1, 1) := by decide +kernel
theorem dX1_first_5 : decode cX1_first 5 = .ok (.aload_n 0, 1) := by decide +kernel
theorem dX1_first_6 : decode cX1_first 6 = .ok (.getfield 108, 3) := by decide +kernel
theorem dX1_first_9 : decode cX1_first 9 = .ok (.ireturn, 1) := by decide +kernel
set_option maxRecDepth 20000 in
theorem ggX1_many_X1_goThrough : GoodIn wsX1_many wsX1_goThrough := goodIn_r _ [6, 7, 8, 9, 10, 1, 11, 12, 13, 5, 14, 15, 16, 17, 18, 19, 20, 21, 22, 23, 24, 25, 26, 27, 28, 29, 30, 31, 32, 33, 34, 35, 36, 37, 38, 39, 40, 41, 42, 43, 44, 45, 46, 47, 48, 49, 50, 51, 52, 53, 54, 55, 56, 57, 58, 59, 60, 61, 62, 63, 64, 65, 66, 67, 68, 69, 70, 71, 72, 73] (by decide +kernel) (by decide +kernel)
set_option maxRecDepth 20000 in
theorem gX1_many_X1_goThrough : GoodIn wsX1_many (wsV RX1 114 RX1 yX1_goThrough wsX1_goThrough) := goodIn_app (goodIn_of _ (by decide +kernel)) ggX1_many_X1_goThrough
theorem dX1_many_0 : decode cX1_many 0 = .ok (.aload_n 0, 1) := by decide +kernel
theorem dX1_many_1 : decode cX1_many 1 = .ok (.invokevirtual 114, 3) := by decide +kernel
theorem dX1_many_4 : decode cX1_many 4 = .ok (.istore_n 1, 1) := by decide +kernel
theorem dX1_many_5 : decode cX1_many 5 = .ok (.aload_n 0, 1) := by decide +kernel
theorem dX1_many_6 : decode cX1_many 6 = .ok (.getfield 111, 3) := by decide +kernel
theorem dX1_many_9 : decode cX1_many 9 = .ok (.ireturn, 1) := by decide +kernel
set_option maxRecDepth 20000 in
theorem ggX1_fewest_X1_goThrough : GoodIn wsX1_fewest wsX1_goThrough := goodIn_r _ [6, 7, 1, 8, 9, 10, 11, 12, 13, 5, 14, 15, 16, 17, 18, 19, 20, 21, 22, 23, 24, 25, 26, 27, 28, 29, 30, 31, 32, 33, 34, 35, 36, 37, 38, 39, 40, 41, 42, 43, 44, 45, 46, 47, 48, 49, 50, 51, 52, 53, 54, 55, 56, 57, 58, 59, 60, 61, 62, 63, 64, 65, 66, 67, 68, 69, 70, 71, 72, 73] (by decide +kernel) (by decide +kernel)
set_option maxRecDepth 20000 in
theorem gX1_fewest_X1_goThrough : GoodIn wsX1_fewest (wsV RX1 114 RX1 yX1_goThrough wsX1_goThrough) := goodIn_app (goodIn_of _ (by decide +kernel)) ggX1_fewest_X1_goThrough
theorem dX1_fewest_0 : decode cX1_fewest 0 = .ok (.aload_n 0, 1) := by decide +kernel
theorem dX1_fewest_1 : decode cX1_fewest 1 = .ok (.invokevirtual 114, 3) := by decide +kernel
theorem dX1_fewest_4 : decode cX1_fewest 4 = .ok (.istore_n 1, 1) := by decide +kernel
theorem dX1_fewest_5 : decode cX1_fewest 5 = .ok (.aload_n 0, 1) := by decide +kernel
theorem dX1_fewest_6 : decode cX1_fewest 6 = .ok (.getfield 102, 3) := by decide +kernel
theorem dX1_fewest_9 : decode cX1_fewest 9 = .ok (.ireturn, 1) := by decide +kernel
theorem dX1_turns_0 : decode cX1_turns 0 = .ok (.sipush 2730, 3) := by decide +kernel
theorem dX1_turns_3 : decode cX1_turns 3 = .ok (.iconst 1, 1) := by decide +kernel
theorem dX1_turns_4 : decode cX1_turns 4 = .ok (.aload_n 0, 1) := by decide +kernel
theorem dX1_turns_5 : decode cX1_turns 5 = .ok (.getfield 7, 3) := by decide +kernel
theorem dX1_turns_8 : decode cX1_turns 8 = .ok (.ishl, 1) := by decide +kernel
theorem dX1_turns_9 : decode cX1_turns 9 = .ok (.iconst 1, 1) := by decide +kernel
theorem dX1_turns_10 : decode cX1_turns 10 = .ok (.isub, 1) := by decide +kernel
theorem dX1_turns_11 : decode cX1_turns 11 = .ok (.iand, 1) := by decide +kernel
theorem dX1_turns_12 : decode cX1_turns 12 = .ok (.ireturn, 1) := by decide +kernel
set_option maxRecDepth 20000 in
theorem ggX1_partner_X1_placeOf : GoodIn wsX1_partner wsX1_placeOf := goodIn_r _ [7, 2, 8, 9, 10, 11, 12, 13, 14, 15, 16, 17, 18, 19, 20, 21, 22, 23] (by decide +kernel) (by decide +kernel)
set_option maxRecDepth 20000 in
theorem gX1_partner_X1_placeOf : GoodIn wsX1_partner (wsV RX1 55 RX1 yX1_placeOf wsX1_placeOf) := goodIn_app (goodIn_of _ (by decide +kernel)) ggX1_partner_X1_placeOf
theorem dX1_partner_0 : decode cX1_partner 0 = .ok (.iload_n 2, 1) := by decide +kernel
theorem dX1_partner_1 : decode cX1_partner 1 = .ok (.ifCond .eq 7, 3) := by decide +kernel
theorem dX1_partner_4 : decode cX1_partner 4 = .ok (.iload_n 1, 1) := by decide +kernel
theorem dX1_partner_5 : decode cX1_partner 5 = .ok (.goto 8, 3) := by decide +kernel
theorem dX1_partner_8 : decode cX1_partner 8 = .ok (.aload_n 0, 1) := by decide +kernel
theorem dX1_partner_9 : decode cX1_partner 9 = .ok (.iload_n 1, 1) := by decide +kernel
theorem dX1_partner_10 : decode cX1_partner 10 = .ok (.invokevirtual 55, 3) := by decide +kernel
theorem dX1_partner_13 : decode cX1_partner 13 = .ok (.istore_n 3, 1) := by decide +kernel
theorem dX1_partner_14 : decode cX1_partner 14 = .ok (.iload_n 3, 1) := by decide +kernel
theorem dX1_partner_15 : decode cX1_partner 15 = .ok (.iconst 2, 1) := by decide +kernel
theorem dX1_partner_16 : decode cX1_partner 16 = .ok (.irem, 1) := by decide +kernel
theorem dX1_partner_17 : decode cX1_partner 17 = .ok (.ifCond .ne 9, 3) := by decide +kernel
theorem dX1_partner_20 : decode cX1_partner 20 = .ok (.iload_n 3, 1) := by decide +kernel
theorem dX1_partner_21 : decode cX1_partner 21 = .ok (.iconst 1, 1) := by decide +kernel
theorem dX1_partner_22 : decode cX1_partner 22 = .ok (.iadd, 1) := by decide +kernel
theorem dX1_partner_23 : decode cX1_partner 23 = .ok (.goto 6, 3) := by decide +kernel
theorem dX1_partner_26 : decode cX1_partner 26 = .ok (.iload_n 3, 1) := by decide +kernel
theorem dX1_partner_27 : decode cX1_partner 27 = .ok (.iconst 1, 1) := by decide +kernel
theorem dX1_partner_28 : decode cX1_partner 28 = .ok (.isub, 1) := by decide +kernel
theorem dX1_partner_29 : decode cX1_partner 29 = .ok (.istore 4, 2) := by decide +kernel
theorem dX1_partner_31 : decode cX1_partner 31 = .ok (.iload 4, 2) := by decide +kernel
theorem dX1_partner_33 : decode cX1_partner 33 = .ok (.aload_n 0, 1) := by decide +kernel
theorem dX1_partner_34 : decode cX1_partner 34 = .ok (.getfield 7, 3) := by decide +kernel
theorem dX1_partner_37 : decode cX1_partner 37 = .ok (.if_icmp .lt 7, 3) := by decide +kernel
theorem dX1_partner_40 : decode cX1_partner 40 = .ok (.iconst (-1), 1) := by decide +kernel
theorem dX1_partner_41 : decode cX1_partner 41 = .ok (.goto 19, 3) := by decide +kernel
theorem dX1_partner_44 : decode cX1_partner 44 = .ok (.iload_n 2, 1) := by decide +kernel
theorem dX1_partner_45 : decode cX1_partner 45 = .ok (.ifCond .eq 8, 3) := by decide +kernel
theorem dX1_partner_48 : decode cX1_partner 48 = .ok (.iload 4, 2) := by decide +kernel
theorem dX1_partner_50 : decode cX1_partner 50 = .ok (.goto 10, 3) := by decide +kernel
theorem dX1_partner_53 : decode cX1_partner 53 = .ok (.aload_n 0, 1) := by decide +kernel
theorem dX1_partner_54 : decode cX1_partner 54 = .ok (.getfield 13, 3) := by decide +kernel
theorem dX1_partner_57 : decode cX1_partner 57 = .ok (.iload 4, 2) := by decide +kernel
theorem dX1_partner_59 : decode cX1_partner 59 = .ok (.iaload, 1) := by decide +kernel
theorem dX1_partner_60 : decode cX1_partner 60 = .ok (.ireturn, 1) := by decide +kernel
set_option maxRecDepth 20000 in
theorem ggX1_pairs_X1_partner : GoodIn wsX1_pairs wsX1_partner := goodIn_r _ [7, 1, 8, 9, 10, 11, 6, 12, 13, 14, 15, 16, 17, 18, 19, 20, 21, 22, 23, 24, 25, 26, 27, 28] (by decide +kernel) (by decide +kernel)
set_option maxRecDepth 20000 in
theorem gX1_pairs_X1_partner : GoodIn wsX1_pairs (wsV RX1 118 RX1 yX1_partner wsX1_partner) := goodIn_app (goodIn_of _ (by decide +kernel)) ggX1_pairs_X1_partner
theorem dX1_pairs_0 : decode cX1_pairs 0 = .ok (.iconst 0, 1) := by decide +kernel
theorem dX1_pairs_1 : decode cX1_pairs 1 = .ok (.istore_n 1, 1) := by decide +kernel
theorem dX1_pairs_2 : decode cX1_pairs 2 = .ok (.iload_n 1, 1) := by decide +kernel
theorem dX1_pairs_3 : decode cX1_pairs 3 = .ok (.aload_n 0, 1) := by decide +kernel
theorem dX1_pairs_4 : decode cX1_pairs 4 = .ok (.getfield 7, 3) := by decide +kernel
theorem dX1_pairs_7 : decode cX1_pairs 7 = .ok (.if_icmp .ge 16, 3) := by decide +kernel
theorem dX1_pairs_10 : decode cX1_pairs 10 = .ok (.aload_n 0, 1) := by decide +kernel
theorem dX1_pairs_11 : decode cX1_pairs 11 = .ok (.getfield 38, 3) := by decide +kernel
theorem dX1_pairs_14 : decode cX1_pairs 14 = .ok (.iload_n 1, 1) := by decide +kernel
theorem dX1_pairs_15 : decode cX1_pairs 15 = .ok (.iconst (-1), 1) := by decide +kernel
theorem dX1_pairs_16 : decode cX1_pairs 16 = .ok (.iastore, 1) := by decide +kernel
theorem dX1_pairs_17 : decode cX1_pairs 17 = .ok (.iinc 1 1, 3) := by decide +kernel
theorem dX1_pairs_20 : decode cX1_pairs 20 = .ok (.goto (-18), 3) := by decide +kernel
theorem dX1_pairs_23 : decode cX1_pairs 23 = .ok (.iconst 0, 1) := by decide +kernel
theorem dX1_pairs_24 : decode cX1_pairs 24 = .ok (.istore_n 1, 1) := by decide +kernel
theorem dX1_pairs_25 : decode cX1_pairs 25 = .ok (.iconst 0, 1) := by decide +kernel
theorem dX1_pairs_26 : decode cX1_pairs 26 = .ok (.istore_n 2, 1) := by decide +kernel
theorem dX1_pairs_27 : decode cX1_pairs 27 = .ok (.iload_n 2, 1) := by decide +kernel
theorem dX1_pairs_28 : decode cX1_pairs 28 = .ok (.aload_n 0, 1) := by decide +kernel
theorem dX1_pairs_29 : decode cX1_pairs 29 = .ok (.getfield 7, 3) := by decide +kernel
theorem dX1_pairs_32 : decode cX1_pairs 32 = .ok (.if_icmp .ge 136, 3) := by decide +kernel
theorem dX1_pairs_35 : decode cX1_pairs 35 = .ok (.aload_n 0, 1) := by decide +kernel
theorem dX1_pairs_36 : decode cX1_pairs 36 = .ok (.getfield 38, 3) := by decide +kernel
theorem dX1_pairs_39 : decode cX1_pairs 39 = .ok (.iload_n 2, 1) := by decide +kernel
theorem dX1_pairs_40 : decode cX1_pairs 40 = .ok (.iaload, 1) := by decide +kernel
theorem dX1_pairs_41 : decode cX1_pairs 41 = .ok (.ifCond .ge 110, 3) := by decide +kernel
theorem dX1_pairs_44 : decode cX1_pairs 44 = .ok (.aload_n 0, 1) := by decide +kernel
theorem dX1_pairs_45 : decode cX1_pairs 45 = .ok (.getfield 38, 3) := by decide +kernel
theorem dX1_pairs_48 : decode cX1_pairs 48 = .ok (.iload_n 2, 1) := by decide +kernel
theorem dX1_pairs_49 : decode cX1_pairs 49 = .ok (.iconst 0, 1) := by decide +kernel
theorem dX1_pairs_50 : decode cX1_pairs 50 = .ok (.iastore, 1) := by decide +kernel
theorem dX1_pairs_51 : decode cX1_pairs 51 = .ok (.iconst 1, 1) := by decide +kernel
theorem dX1_pairs_52 : decode cX1_pairs 52 = .ok (.istore_n 3, 1) := by decide +kernel
theorem dX1_pairs_53 : decode cX1_pairs 53 = .ok (.iload_n 3, 1) := by decide +kernel
theorem dX1_pairs_54 : decode cX1_pairs 54 = .ok (.ifCond .eq 97, 3) := by decide +kernel
theorem dX1_pairs_57 : decode cX1_pairs 57 = .ok (.iconst 0, 1) := by decide +kernel
theorem dX1_pairs_58 : decode cX1_pairs 58 = .ok (.istore_n 3, 1) := by decide +kernel
theorem dX1_pairs_59 : decode cX1_pairs 59 = .ok (.iconst 0, 1) := by decide +kernel
end
section
theorem dX1_pairs_60 : decode cX1_pairs 60 = .ok (.istore 4, 2) := by decide +kernel
theorem dX1_pairs_62 : decode cX1_pairs 62 = .ok (.iload 4, 2) := by decide +kernel
theorem dX1_pairs_64 : decode cX1_pairs 64 = .ok (.iconst 2, 1) := by decide +kernel
theorem dX1_pairs_65 : decode cX1_pairs 65 = .ok (.aload_n 0, 1) := by decide +kernel
theorem dX1_pairs_66 : decode cX1_pairs 66 = .ok (.getfield 7, 3) := by decide +kernel
theorem dX1_pairs_69 : decode cX1_pairs 69 = .ok (.imul, 1) := by decide +kernel
theorem dX1_pairs_70 : decode cX1_pairs 70 = .ok (.if_icmp .ge 78, 3) := by decide +kernel
theorem dX1_pairs_73 : decode cX1_pairs 73 = .ok (.aload_n 0, 1) := by decide +kernel
theorem dX1_pairs_74 : decode cX1_pairs 74 = .ok (.iload 4, 2) := by decide +kernel
theorem dX1_pairs_76 : decode cX1_pairs 76 = .ok (.iconst 2, 1) := by decide +kernel
theorem dX1_pairs_77 : decode cX1_pairs 77 = .ok (.idiv, 1) := by decide +kernel
theorem dX1_pairs_78 : decode cX1_pairs 78 = .ok (.iload 4, 2) := by decide +kernel
theorem dX1_pairs_80 : decode cX1_pairs 80 = .ok (.iconst 2, 1) := by decide +kernel
theorem dX1_pairs_81 : decode cX1_pairs 81 = .ok (.irem, 1) := by decide +kernel
theorem dX1_pairs_82 : decode cX1_pairs 82 = .ok (.ifCond .ne 7, 3) := by decide +kernel
theorem dX1_pairs_85 : decode cX1_pairs 85 = .ok (.iconst 1, 1) := by decide +kernel
theorem dX1_pairs_86 : decode cX1_pairs 86 = .ok (.goto 4, 3) := by decide +kernel
theorem dX1_pairs_89 : decode cX1_pairs 89 = .ok (.iconst 0, 1) := by decide +kernel
theorem dX1_pairs_90 : decode cX1_pairs 90 = .ok (.invokevirtual 118, 3) := by decide +kernel
theorem dX1_pairs_93 : decode cX1_pairs 93 = .ok (.istore 5, 2) := by decide +kernel
theorem dX1_pairs_95 : decode cX1_pairs 95 = .ok (.aload_n 0, 1) := by decide +kernel
theorem dX1_pairs_96 : decode cX1_pairs 96 = .ok (.getfield 38, 3) := by decide +kernel
theorem dX1_pairs_99 : decode cX1_pairs 99 = .ok (.iload 4, 2) := by decide +kernel
theorem dX1_pairs_101 : decode cX1_pairs 101 = .ok (.iconst 2, 1) := by decide +kernel
theorem dX1_pairs_102 : decode cX1_pairs 102 = .ok (.idiv, 1) := by decide +kernel
theorem dX1_pairs_103 : decode cX1_pairs 103 = .ok (.iaload, 1) := by decide +kernel
theorem dX1_pairs_104 : decode cX1_pairs 104 = .ok (.ifCond .lt 38, 3) := by decide +kernel
theorem dX1_pairs_107 : decode cX1_pairs 107 = .ok (.iload 5, 2) := by decide +kernel
theorem dX1_pairs_109 : decode cX1_pairs 109 = .ok (.ifCond .lt 33, 3) := by decide +kernel
theorem dX1_pairs_112 : decode cX1_pairs 112 = .ok (.aload_n 0, 1) := by decide +kernel
theorem dX1_pairs_113 : decode cX1_pairs 113 = .ok (.getfield 38, 3) := by decide +kernel
theorem dX1_pairs_116 : decode cX1_pairs 116 = .ok (.iload 5, 2) := by decide +kernel
theorem dX1_pairs_118 : decode cX1_pairs 118 = .ok (.iaload, 1) := by decide +kernel
theorem dX1_pairs_119 : decode cX1_pairs 119 = .ok (.ifCond .ge 23, 3) := by decide +kernel
theorem dX1_pairs_122 : decode cX1_pairs 122 = .ok (.aload_n 0, 1) := by decide +kernel
theorem dX1_pairs_123 : decode cX1_pairs 123 = .ok (.getfield 38, 3) := by decide +kernel
theorem dX1_pairs_126 : decode cX1_pairs 126 = .ok (.iload 5, 2) := by decide +kernel
theorem dX1_pairs_128 : decode cX1_pairs 128 = .ok (.iconst 1, 1) := by decide +kernel
theorem dX1_pairs_129 : decode cX1_pairs 129 = .ok (.aload_n 0, 1) := by decide +kernel
theorem dX1_pairs_130 : decode cX1_pairs 130 = .ok (.getfield 38, 3) := by decide +kernel
theorem dX1_pairs_133 : decode cX1_pairs 133 = .ok (.iload 4, 2) := by decide +kernel
theorem dX1_pairs_135 : decode cX1_pairs 135 = .ok (.iconst 2, 1) := by decide +kernel
theorem dX1_pairs_136 : decode cX1_pairs 136 = .ok (.idiv, 1) := by decide +kernel
theorem dX1_pairs_137 : decode cX1_pairs 137 = .ok (.iaload, 1) := by decide +kernel
theorem dX1_pairs_138 : decode cX1_pairs 138 = .ok (.isub, 1) := by decide +kernel
theorem dX1_pairs_139 : decode cX1_pairs 139 = .ok (.iastore, 1) := by decide +kernel
theorem dX1_pairs_140 : decode cX1_pairs 140 = .ok (.iconst 1, 1) := by decide +kernel
theorem dX1_pairs_141 : decode cX1_pairs 141 = .ok (.istore_n 3, 1) := by decide +kernel
theorem dX1_pairs_142 : decode cX1_pairs 142 = .ok (.iinc 4 1, 3) := by decide +kernel
theorem dX1_pairs_145 : decode cX1_pairs 145 = .ok (.goto (-83), 3) := by decide +kernel
theorem dX1_pairs_148 : decode cX1_pairs 148 = .ok (.goto (-95), 3) := by decide +kernel
theorem dX1_pairs_151 : decode cX1_pairs 151 = .ok (.iload_n 1, 1) := by decide +kernel
theorem dX1_pairs_152 : decode cX1_pairs 152 = .ok (.aload_n 0, 1) := by decide +kernel
theorem dX1_pairs_153 : decode cX1_pairs 153 = .ok (.getfield 38, 3) := by decide +kernel
theorem dX1_pairs_156 : decode cX1_pairs 156 = .ok (.iload_n 2, 1) := by decide +kernel
theorem dX1_pairs_157 : decode cX1_pairs 157 = .ok (.iaload, 1) := by decide +kernel
theorem dX1_pairs_158 : decode cX1_pairs 158 = .ok (.iload_n 2, 1) := by decide +kernel
theorem dX1_pairs_159 : decode cX1_pairs 159 = .ok (.ishl, 1) := by decide +kernel
theorem dX1_pairs_160 : decode cX1_pairs 160 = .ok (.ior, 1) := by decide +kernel
theorem dX1_pairs_161 : decode cX1_pairs 161 = .ok (.istore_n 1, 1) := by decide +kernel
theorem dX1_pairs_162 : decode cX1_pairs 162 = .ok (.iinc 2 1, 3) := by decide +kernel
theorem dX1_pairs_165 : decode cX1_pairs 165 = .ok (.goto (-138), 3) := by decide +kernel
theorem dX1_pairs_168 : decode cX1_pairs 168 = .ok (.iload_n 1, 1) := by decide +kernel
theorem dX1_pairs_169 : decode cX1_pairs 169 = .ok (.ireturn, 1) := by decide +kernel
set_option maxRecDepth 20000 in
theorem ggX1_come_X1_collect : GoodIn wsX1_come wsX1_collect := goodIn_r _ [9, 2, 3, 10, 11, 12, 8, 13, 1, 14, 15, 16, 17, 18, 19, 20, 21, 22, 23, 24, 25, 26, 27, 28, 32, 33, 34, 35, 36, 37, 38, 39, 40, 41, 42, 43, 44, 45, 46, 47] (by decide +kernel) (by decide +kernel)
set_option maxRecDepth 20000 in
theorem gX1_come_X1_collect : GoodIn wsX1_come (wsV RX1 92 RX1 yX1_collect wsX1_collect) := goodIn_app (goodIn_of _ (by decide +kernel)) ggX1_come_X1_collect
set_option maxRecDepth 20000 in
theorem ggX1_come_X1_ones : GoodIn wsX1_come wsX1_ones := goodIn_r _ [31] (by decide +kernel) (by decide +kernel)
set_option maxRecDepth 20000 in
theorem gX1_come_X1_ones : GoodIn wsX1_come (va_wsS RX1 79 yX1_ones wsX1_ones) := goodIn_app (goodIn_of _ (by decide +kernel)) ggX1_come_X1_ones
theorem dX1_come_0 : decode cX1_come 0 = .ok (.iconst 0, 1) := by decide +kernel
theorem dX1_come_1 : decode cX1_come 1 = .ok (.istore_n 1, 1) := by decide +kernel
theorem dX1_come_2 : decode cX1_come 2 = .ok (.iconst 0, 1) := by decide +kernel
theorem dX1_come_3 : decode cX1_come 3 = .ok (.istore_n 2, 1) := by decide +kernel
theorem dX1_come_4 : decode cX1_come 4 = .ok (.aload_n 0, 1) := by decide +kernel
theorem dX1_come_5 : decode cX1_come 5 = .ok (.invokevirtual 92, 3) := by decide +kernel
theorem dX1_come_8 : decode cX1_come 8 = .ok (.iconst 0, 1) := by decide +kernel
theorem dX1_come_9 : decode cX1_come 9 = .ok (.istore_n 3, 1) := by decide +kernel
theorem dX1_come_10 : decode cX1_come 10 = .ok (.iload_n 3, 1) := by decide +kernel
theorem dX1_come_11 : decode cX1_come 11 = .ok (.aload_n 0, 1) := by decide +kernel
theorem dX1_come_12 : decode cX1_come 12 = .ok (.getfield 7, 3) := by decide +kernel
theorem dX1_come_15 : decode cX1_come 15 = .ok (.if_icmp .ge 137, 3) := by decide +kernel
theorem dX1_come_18 : decode cX1_come 18 = .ok (.iconst 0, 1) := by decide +kernel
theorem dX1_come_19 : decode cX1_come 19 = .ok (.istore 4, 2) := by decide +kernel
theorem dX1_come_21 : decode cX1_come 21 = .ok (.iconst 0, 1) := by decide +kernel
theorem dX1_come_22 : decode cX1_come 22 = .ok (.istore 5, 2) := by decide +kernel
theorem dX1_come_24 : decode cX1_come 24 = .ok (.iload 5, 2) := by decide +kernel
theorem dX1_come_26 : decode cX1_come 26 = .ok (.aload_n 0, 1) := by decide +kernel
theorem dX1_come_27 : decode cX1_come 27 = .ok (.getfield 41, 3) := by decide +kernel
theorem dX1_come_30 : decode cX1_come 30 = .ok (.if_icmp .ge 56, 3) := by decide +kernel
theorem dX1_come_33 : decode cX1_come 33 = .ok (.aload_n 0, 1) := by decide +kernel
theorem dX1_come_34 : decode cX1_come 34 = .ok (.getfield 35, 3) := by decide +kernel
theorem dX1_come_37 : decode cX1_come 37 = .ok (.iload 5, 2) := by decide +kernel
theorem dX1_come_39 : decode cX1_come 39 = .ok (.iaload, 1) := by decide +kernel
theorem dX1_come_40 : decode cX1_come 40 = .ok (.iload_n 3, 1) := by decide +kernel
theorem dX1_come_41 : decode cX1_come 41 = .ok (.ishr, 1) := by decide +kernel
theorem dX1_come_42 : decode cX1_come 42 = .ok (.iconst 1, 1) := by decide +kernel
theorem dX1_come_43 : decode cX1_come 43 = .ok (.iand, 1) := by decide +kernel
theorem dX1_come_44 : decode cX1_come 44 = .ok (.iconst 1, 1) := by decide +kernel
theorem dX1_come_45 : decode cX1_come 45 = .ok (.if_icmp .ne 35, 3) := by decide +kernel
theorem dX1_come_48 : decode cX1_come 48 = .ok (.iload 4, 2) := by decide +kernel
theorem dX1_come_50 : decode cX1_come 50 = .ok (.iconst 2, 1) := by decide +kernel
theorem dX1_come_51 : decode cX1_come 51 = .ok (.aload_n 0, 1) := by decide +kernel
theorem dX1_come_52 : decode cX1_come 52 = .ok (.getfield 35, 3) := by decide +kernel
theorem dX1_come_55 : decode cX1_come 55 = .ok (.iload 5, 2) := by decide +kernel
theorem dX1_come_57 : decode cX1_come 57 = .ok (.iaload, 1) := by decide +kernel
theorem dX1_come_58 : decode cX1_come 58 = .ok (.iload_n 1, 1) := by decide +kernel
theorem dX1_come_59 : decode cX1_come 59 = .ok (.iand, 1) := by decide +kernel
theorem dX1_come_60 : decode cX1_come 60 = .ok (.invokestatic 79, 3) := by decide +kernel
theorem dX1_come_63 : decode cX1_come 63 = .ok (.imul, 1) := by decide +kernel
theorem dX1_come_64 : decode cX1_come 64 = .ok (.aload_n 0, 1) := by decide +kernel
theorem dX1_come_65 : decode cX1_come 65 = .ok (.getfield 35, 3) := by decide +kernel
theorem dX1_come_68 : decode cX1_come 68 = .ok (.iload 5, 2) := by decide +kernel
theorem dX1_come_70 : decode cX1_come 70 = .ok (.iaload, 1) := by decide +kernel
theorem dX1_come_71 : decode cX1_come 71 = .ok (.iload_n 2, 1) := by decide +kernel
theorem dX1_come_72 : decode cX1_come 72 = .ok (.iand, 1) := by decide +kernel
theorem dX1_come_73 : decode cX1_come 73 = .ok (.invokestatic 79, 3) := by decide +kernel
theorem dX1_come_76 : decode cX1_come 76 = .ok (.isub, 1) := by decide +kernel
theorem dX1_come_77 : decode cX1_come 77 = .ok (.iadd, 1) := by decide +kernel
theorem dX1_come_78 : decode cX1_come 78 = .ok (.istore 4, 2) := by decide +kernel
theorem dX1_come_80 : decode cX1_come 80 = .ok (.iinc 5 1, 3) := by decide +kernel
theorem dX1_come_83 : decode cX1_come 83 = .ok (.goto (-59), 3) := by decide +kernel
theorem dX1_come_86 : decode cX1_come 86 = .ok (.aload_n 0, 1) := by decide +kernel
theorem dX1_come_87 : decode cX1_come 87 = .ok (.getfield 17, 3) := by decide +kernel
theorem dX1_come_90 : decode cX1_come 90 = .ok (.iload_n 3, 1) := by decide +kernel
theorem dX1_come_91 : decode cX1_come 91 = .ok (.iaload, 1) := by decide +kernel
theorem dX1_come_92 : decode cX1_come 92 = .ok (.ifCond .ge 16, 3) := by decide +kernel
theorem dX1_come_95 : decode cX1_come 95 = .ok (.iload 4, 2) := by decide +kernel
theorem dX1_come_97 : decode cX1_come 97 = .ok (.ifCond .ge 7, 3) := by decide +kernel
theorem dX1_come_100 : decode cX1_come 100 = .ok (.iconst 1, 1) := by decide +kernel
theorem dX1_come_101 : decode cX1_come 101 = .ok (.goto 22, 3) := by decide +kernel
theorem dX1_come_104 : decode cX1_come 104 = .ok (.iconst 0, 1) := by decide +kernel
theorem dX1_come_105 : decode cX1_come 105 = .ok (.goto 18, 3) := by decide +kernel
theorem dX1_come_108 : decode cX1_come 108 = .ok (.aload_n 0, 1) := by decide +kernel
theorem dX1_come_109 : decode cX1_come 109 = .ok (.getfield 17, 3) := by decide +kernel
theorem dX1_come_112 : decode cX1_come 112 = .ok (.iload_n 3, 1) := by decide +kernel
theorem dX1_come_113 : decode cX1_come 113 = .ok (.iaload, 1) := by decide +kernel
theorem dX1_come_114 : decode cX1_come 114 = .ok (.iconst 1, 1) := by decide +kernel
theorem dX1_come_115 : decode cX1_come 115 = .ok (.if_icmp .ne 7, 3) := by decide +kernel
theorem dX1_come_118 : decode cX1_come 118 = .ok (.iconst 1, 1) := by decide +kernel
theorem dX1_come_119 : decode cX1_come 119 = .ok (.goto 4, 3) := by decide +kernel
theorem dX1_come_122 : decode cX1_come 122 = .ok (.iconst 0, 1) := by decide +kernel
theorem dX1_come_123 : decode cX1_come 123 = .ok (.istore 5, 2) := by decide +kernel
theorem dX1_come_125 : decode cX1_come 125 = .ok (.iload_n 1, 1) := by decide +kernel
theorem dX1_come_126 : decode cX1_come 126 = .ok (.iload 5, 2) := by decide +kernel
theorem dX1_come_128 : decode cX1_come 128 = .ok (.ifCond .eq 9, 3) := by decide +kernel
theorem dX1_come_131 : decode cX1_come 131 = .ok (.iconst 1, 1) := by decide +kernel
theorem dX1_come_132 : decode cX1_come 132 = .ok (.iload_n 3, 1) := by decide +kernel
theorem dX1_come_133 : decode cX1_come 133 = .ok (.ishl, 1) := by decide +kernel
theorem dX1_come_134 : decode cX1_come 134 = .ok (.goto 4, 3) := by decide +kernel
theorem dX1_come_137 : decode cX1_come 137 = .ok (.iconst 0, 1) := by decide +kernel
theorem dX1_come_138 : decode cX1_come 138 = .ok (.ior, 1) := by decide +kernel
theorem dX1_come_139 : decode cX1_come 139 = .ok (.istore_n 1, 1) := by decide +kernel
theorem dX1_come_140 : decode cX1_come 140 = .ok (.iload_n 2, 1) := by decide +kernel
theorem dX1_come_141 : decode cX1_come 141 = .ok (.iconst 1, 1) := by decide +kernel
theorem dX1_come_142 : decode cX1_come 142 = .ok (.iload_n 3, 1) := by decide +kernel
theorem dX1_come_143 : decode cX1_come 143 = .ok (.ishl, 1) := by decide +kernel
theorem dX1_come_144 : decode cX1_come 144 = .ok (.ior, 1) := by decide +kernel
theorem dX1_come_145 : decode cX1_come 145 = .ok (.istore_n 2, 1) := by decide +kernel
theorem dX1_come_146 : decode cX1_come 146 = .ok (.iinc 3 1, 3) := by decide +kernel
theorem dX1_come_149 : decode cX1_come 149 = .ok (.goto (-139), 3) := by decide +kernel
theorem dX1_come_152 : decode cX1_come 152 = .ok (.iload_n 1, 1) := by decide +kernel
theorem dX1_come_153 : decode cX1_come 153 = .ok (.ireturn, 1) := by decide +kernel
set_option maxRecDepth 20000 in
theorem ggX1_step_X1_in : GoodIn wsX1_step wsX1_in := goodIn_r _ [7] (by decide +kernel) (by decide +kernel)
set_option maxRecDepth 20000 in
theorem gX1_step_X1_in : GoodIn wsX1_step (va_wsS RX1 44 yX1_in wsX1_in) := goodIn_app (goodIn_of _ (by decide +kernel)) ggX1_step_X1_in
theorem dX1_step_0 : decode cX1_step 0 = .ok (.iload_n 1, 1) := by decide +kernel
theorem dX1_step_1 : decode cX1_step 1 = .ok (.bipush (-20), 2) := by decide +kernel
theorem dX1_step_3 : decode cX1_step 3 = .ok (.bipush 20, 2) := by decide +kernel
theorem dX1_step_5 : decode cX1_step 5 = .ok (.invokestatic 44, 3) := by decide +kernel
theorem dX1_step_8 : decode cX1_step 8 = .ok (.ifCond .eq 14, 3) := by decide +kernel
theorem dX1_step_11 : decode cX1_step 11 = .ok (.iload_n 2, 1) := by decide +kernel
theorem dX1_step_12 : decode cX1_step 12 = .ok (.bipush (-20), 2) := by decide +kernel
theorem dX1_step_14 : decode cX1_step 14 = .ok (.bipush 20, 2) := by decide +kernel
theorem dX1_step_16 : decode cX1_step 16 = .ok (.invokestatic 44, 3) := by decide +kernel
theorem dX1_step_19 : decode cX1_step 19 = .ok (.ifCond .ne 5, 3) := by decide +kernel
theorem dX1_step_22 : decode cX1_step 22 = .ok (.iconst (-1), 1) := by decide +kernel
theorem dX1_step_23 : decode cX1_step 23 = .ok (.ireturn, 1) := by decide +kernel
theorem dX1_step_24 : decode cX1_step 24 = .ok (.aload_n 0, 1) := by decide +kernel
theorem dX1_step_25 : decode cX1_step 25 = .ok (.getfield 122, 3) := by decide +kernel
theorem dX1_step_28 : decode cX1_step 28 = .ok (.bipush 10, 2) := by decide +kernel
theorem dX1_step_30 : decode cX1_step 30 = .ok (.if_icmp .ne 6, 3) := by decide +kernel
theorem dX1_step_33 : decode cX1_step 33 = .ok (.bipush (-3), 2) := by decide +kernel
theorem dX1_step_35 : decode cX1_step 35 = .ok (.ireturn, 1) := by decide +kernel
theorem dX1_step_36 : decode cX1_step 36 = .ok (.aload_n 0, 1) := by decide +kernel
theorem dX1_step_37 : decode cX1_step 37 = .ok (.getfield 29, 3) := by decide +kernel
theorem dX1_step_40 : decode cX1_step 40 = .ok (.aload_n 0, 1) := by decide +kernel
theorem dX1_step_41 : decode cX1_step 41 = .ok (.getfield 122, 3) := by decide +kernel
theorem dX1_step_44 : decode cX1_step 44 = .ok (.iload_n 1, 1) := by decide +kernel
theorem dX1_step_45 : decode cX1_step 45 = .ok (.iastore, 1) := by decide +kernel
theorem dX1_step_46 : decode cX1_step 46 = .ok (.aload_n 0, 1) := by decide +kernel
theorem dX1_step_47 : decode cX1_step 47 = .ok (.getfield 32, 3) := by decide +kernel
theorem dX1_step_50 : decode cX1_step 50 = .ok (.aload_n 0, 1) := by decide +kernel
theorem dX1_step_51 : decode cX1_step 51 = .ok (.getfield 122, 3) := by decide +kernel
theorem dX1_step_54 : decode cX1_step 54 = .ok (.iload_n 2, 1) := by decide +kernel
theorem dX1_step_55 : decode cX1_step 55 = .ok (.iastore, 1) := by decide +kernel
theorem dX1_step_56 : decode cX1_step 56 = .ok (.aload_n 0, 1) := by decide +kernel
theorem dX1_step_57 : decode cX1_step 57 = .ok (.dup, 1) := by decide +kernel
theorem dX1_step_58 : decode cX1_step 58 = .ok (.getfield 122, 3) := by decide +kernel
theorem dX1_step_61 : decode cX1_step 61 = .ok (.iconst 1, 1) := by decide +kernel
theorem dX1_step_62 : decode cX1_step 62 = .ok (.iadd, 1) := by decide +kernel
theorem dX1_step_63 : decode cX1_step 63 = .ok (.putfield 122, 3) := by decide +kernel
theorem dX1_step_66 : decode cX1_step 66 = .ok (.aload_n 0, 1) := by decide +kernel
theorem dX1_step_67 : decode cX1_step 67 = .ok (.getfield 122, 3) := by decide +kernel
theorem dX1_step_70 : decode cX1_step 70 = .ok (.iconst 1, 1) := by decide +kernel
theorem dX1_step_71 : decode cX1_step 71 = .ok (.isub, 1) := by decide +kernel
theorem dX1_step_72 : decode cX1_step 72 = .ok (.ireturn, 1) := by decide +kernel
theorem dX1_clear_0 : decode cX1_clear 0 = .ok (.aload_n 0, 1) := by decide +kernel
theorem dX1_clear_1 : decode cX1_clear 1 = .ok (.getfield 122, 3) := by decide +kernel
theorem dX1_clear_4 : decode cX1_clear 4 = .ok (.istore_n 1, 1) := by decide +kernel
theorem dX1_clear_5 : decode cX1_clear 5 = .ok (.aload_n 0, 1) := by decide +kernel
theorem dX1_clear_6 : decode cX1_clear 6 = .ok (.iconst 0, 1) := by decide +kernel
theorem dX1_clear_7 : decode cX1_clear 7 = .ok (.putfield 122, 3) := by decide +kernel
theorem dX1_clear_10 : decode cX1_clear 10 = .ok (.iload_n 1, 1) := by decide +kernel
theorem dX1_clear_11 : decode cX1_clear 11 = .ok (.ireturn, 1) := by decide +kernel
set_option maxRecDepth 20000 in
theorem ggX1_far_X1_size : GoodIn wsX1_far wsX1_size := goodIn_r _ [4] (by decide +kernel) (by decide +kernel)
set_option maxRecDepth 20000 in
theorem gX1_far_X1_size : GoodIn wsX1_far (va_wsS RX1 82 yX1_size wsX1_size) := goodIn_app (goodIn_of _ (by decide +kernel)) ggX1_far_X1_size
theorem dX1_far_0 : decode cX1_far 0 = .ok (.iload_n 0, 1) := by decide +kernel
theorem dX1_far_1 : decode cX1_far 1 = .ok (.invokestatic 82, 3) := by decide +kernel
theorem dX1_far_4 : decode cX1_far 4 = .ok (.iload_n 1, 1) := by decide +kernel
theorem dX1_far_5 : decode cX1_far 5 = .ok (.invokestatic 82, 3) := by decide +kernel
theorem dX1_far_8 : decode cX1_far 8 = .ok (.if_icmp .le 10, 3) := by decide +kernel
theorem dX1_far_11 : decode cX1_far 11 = .ok (.iload_n 0, 1) := by decide +kernel
theorem dX1_far_12 : decode cX1_far 12 = .ok (.invokestatic 82, 3) := by decide +kernel
theorem dX1_far_15 : decode cX1_far 15 = .ok (.goto 7, 3) := by decide +kernel
theorem dX1_far_18 : decode cX1_far 18 = .ok (.iload_n 1, 1) := by decide +kernel
theorem dX1_far_19 : decode cX1_far 19 = .ok (.invokestatic 82, 3) := by decide +kernel
theorem dX1_far_22 : decode cX1_far 22 = .ok (.ireturn, 1) := by decide +kernel
set_option maxRecDepth 20000 in
theorem ggX1_strayOf_X1_far : GoodIn wsX1_strayOf wsX1_far := goodIn_r _ [7, 8, 9, 6, 10] (by decide +kernel) (by decide +kernel)
set_option maxRecDepth 20000 in
theorem gX1_strayOf_X1_far : GoodIn wsX1_strayOf (va_wsS RX1 125 yX1_far wsX1_far) := goodIn_app (goodIn_of _ (by decide +kernel)) ggX1_strayOf_X1_far
theorem dX1_strayOf_0 : decode cX1_strayOf 0 = .ok (.iconst 0, 1) := by decide +kernel
theorem dX1_strayOf_1 : decode cX1_strayOf 1 = .ok (.istore_n 2, 1) := by decide +kernel
theorem dX1_strayOf_2 : decode cX1_strayOf 2 = .ok (.iconst 0, 1) := by decide +kernel
theorem dX1_strayOf_3 : decode cX1_strayOf 3 = .ok (.istore_n 3, 1) := by decide +kernel
theorem dX1_strayOf_4 : decode cX1_strayOf 4 = .ok (.iconst 0, 1) := by decide +kernel
theorem dX1_strayOf_5 : decode cX1_strayOf 5 = .ok (.istore 4, 2) := by decide +kernel
theorem dX1_strayOf_7 : decode cX1_strayOf 7 = .ok (.iconst 0, 1) := by decide +kernel
theorem dX1_strayOf_8 : decode cX1_strayOf 8 = .ok (.istore 5, 2) := by decide +kernel
theorem dX1_strayOf_10 : decode cX1_strayOf 10 = .ok (.iload 5, 2) := by decide +kernel
theorem dX1_strayOf_12 : decode cX1_strayOf 12 = .ok (.aload_n 0, 1) := by decide +kernel
theorem dX1_strayOf_13 : decode cX1_strayOf 13 = .ok (.getfield 122, 3) := by decide +kernel
theorem dX1_strayOf_16 : decode cX1_strayOf 16 = .ok (.if_icmp .ge 74, 3) := by decide +kernel
theorem dX1_strayOf_19 : decode cX1_strayOf 19 = .ok (.iload_n 1, 1) := by decide +kernel
theorem dX1_strayOf_20 : decode cX1_strayOf 20 = .ok (.iload 5, 2) := by decide +kernel
theorem dX1_strayOf_22 : decode cX1_strayOf 22 = .ok (.ishr, 1) := by decide +kernel
theorem dX1_strayOf_23 : decode cX1_strayOf 23 = .ok (.iconst 1, 1) := by decide +kernel
theorem dX1_strayOf_24 : decode cX1_strayOf 24 = .ok (.iand, 1) := by decide +kernel
theorem dX1_strayOf_25 : decode cX1_strayOf 25 = .ok (.iconst 1, 1) := by decide +kernel
theorem dX1_strayOf_26 : decode cX1_strayOf 26 = .ok (.if_icmp .ne 7, 3) := by decide +kernel
theorem dX1_strayOf_29 : decode cX1_strayOf 29 = .ok (.iconst (-1), 1) := by decide +kernel
theorem dX1_strayOf_30 : decode cX1_strayOf 30 = .ok (.goto 4, 3) := by decide +kernel
theorem dX1_strayOf_33 : decode cX1_strayOf 33 = .ok (.iconst 1, 1) := by decide +kernel
theorem dX1_strayOf_34 : decode cX1_strayOf 34 = .ok (.istore 6, 2) := by decide +kernel
theorem dX1_strayOf_36 : decode cX1_strayOf 36 = .ok (.iload_n 2, 1) := by decide +kernel
theorem dX1_strayOf_37 : decode cX1_strayOf 37 = .ok (.iload 6, 2) := by decide +kernel
theorem dX1_strayOf_39 : decode cX1_strayOf 39 = .ok (.aload_n 0, 1) := by decide +kernel
theorem dX1_strayOf_40 : decode cX1_strayOf 40 = .ok (.getfield 29, 3) := by decide +kernel
theorem dX1_strayOf_43 : decode cX1_strayOf 43 = .ok (.iload 5, 2) := by decide +kernel
theorem dX1_strayOf_45 : decode cX1_strayOf 45 = .ok (.iaload, 1) := by decide +kernel
theorem dX1_strayOf_46 : decode cX1_strayOf 46 = .ok (.imul, 1) := by decide +kernel
theorem dX1_strayOf_47 : decode cX1_strayOf 47 = .ok (.iadd, 1) := by decide +kernel
theorem dX1_strayOf_48 : decode cX1_strayOf 48 = .ok (.istore_n 2, 1) := by decide +kernel
theorem dX1_strayOf_49 : decode cX1_strayOf 49 = .ok (.iload_n 3, 1) := by decide +kernel
theorem dX1_strayOf_50 : decode cX1_strayOf 50 = .ok (.iload 6, 2) := by decide +kernel
theorem dX1_strayOf_52 : decode cX1_strayOf 52 = .ok (.aload_n 0, 1) := by decide +kernel
theorem dX1_strayOf_53 : decode cX1_strayOf 53 = .ok (.getfield 32, 3) := by decide +kernel
theorem dX1_strayOf_56 : decode cX1_strayOf 56 = .ok (.iload 5, 2) := by decide +kernel
theorem dX1_strayOf_58 : decode cX1_strayOf 58 = .ok (.iaload, 1) := by decide +kernel
theorem dX1_strayOf_59 : decode cX1_strayOf 59 = .ok (.imul, 1) := by decide +kernel
theorem dX1_strayOf_60 : decode cX1_strayOf 60 = .ok (.iadd, 1) := by decide +kernel
theorem dX1_strayOf_61 : decode cX1_strayOf 61 = .ok (.istore_n 3, 1) := by decide +kernel
theorem dX1_strayOf_62 : decode cX1_strayOf 62 = .ok (.iload_n 2, 1) := by decide +kernel
theorem dX1_strayOf_63 : decode cX1_strayOf 63 = .ok (.iload_n 3, 1) := by decide +kernel
theorem dX1_strayOf_64 : decode cX1_strayOf 64 = .ok (.invokestatic 125, 3) := by decide +kernel
theorem dX1_strayOf_67 : decode cX1_strayOf 67 = .ok (.iload 4, 2) := by decide +kernel
theorem dX1_strayOf_69 : decode cX1_strayOf 69 = .ok (.if_icmp .le 11, 3) := by decide +kernel
theorem dX1_strayOf_72 : decode cX1_strayOf 72 = .ok (.iload_n 2, 1) := by decide +kernel
theorem dX1_strayOf_73 : decode cX1_strayOf 73 = .ok (.iload_n 3, 1) := by decide +kernel
theorem dX1_strayOf_74 : decode cX1_strayOf 74 = .ok (.invokestatic 125, 3) := by decide +kernel
theorem dX1_strayOf_77 : decode cX1_strayOf 77 = .ok (.goto 5, 3) := by decide +kernel
theorem dX1_strayOf_80 : decode cX1_strayOf 80 = .ok (.iload 4, 2) := by decide +kernel
theorem dX1_strayOf_82 : decode cX1_strayOf 82 = .ok (.istore 4, 2) := by decide +kernel
theorem dX1_strayOf_84 : decode cX1_strayOf 84 = .ok (.iinc 5 1, 3) := by decide +kernel
theorem dX1_strayOf_87 : decode cX1_strayOf 87 = .ok (.goto (-77), 3) := by decide +kernel
theorem dX1_strayOf_90 : decode cX1_strayOf 90 = .ok (.iload 4, 2) := by decide +kernel
theorem dX1_strayOf_92 : decode cX1_strayOf 92 = .ok (.ireturn, 1) := by decide +kernel
set_option maxRecDepth 20000 in
theorem ggX1_stray_X1_in : GoodIn wsX1_stray wsX1_in := goodIn_r _ [5] (by decide +kernel) (by decide +kernel)
set_option maxRecDepth 20000 in
theorem gX1_stray_X1_in : GoodIn wsX1_stray (va_wsS RX1 44 yX1_in wsX1_in) := goodIn_app (goodIn_of _ (by decide +kernel)) ggX1_stray_X1_in
set_option maxRecDepth 20000 in
theorem ggX1_stray_X1_strayOf : GoodIn wsX1_stray wsX1_strayOf := goodIn_r _ [9, 1, 10, 11, 12, 13, 4, 14, 15, 16, 17, 18, 19, 20, 21, 22, 23, 24, 25, 26, 27, 28, 29, 30, 31, 32, 33] (by decide +kernel) (by decide +kernel)
set_option maxRecDepth 20000 in
theorem gX1_stray_X1_strayOf : GoodIn wsX1_stray (wsV RX1 128 RX1 yX1_strayOf wsX1_strayOf) := goodIn_app (goodIn_of _ (by decide +kernel)) ggX1_stray_X1_strayOf
theorem dX1_stray_0 : decode cX1_stray 0 = .ok (.iload_n 1, 1) := by decide +kernel
theorem dX1_stray_1 : decode cX1_stray 1 = .ok (.iconst 0, 1) := by decide +kernel
theorem dX1_stray_2 : decode cX1_stray 2 = .ok (.iconst 1, 1) := by decide +kernel
theorem dX1_stray_3 : decode cX1_stray 3 = .ok (.aload_n 0, 1) := by decide +kernel
theorem dX1_stray_4 : decode cX1_stray 4 = .ok (.getfield 122, 3) := by decide +kernel
theorem dX1_stray_7 : decode cX1_stray 7 = .ok (.ishl, 1) := by decide +kernel
theorem dX1_stray_8 : decode cX1_stray 8 = .ok (.iconst 1, 1) := by decide +kernel
theorem dX1_stray_9 : decode cX1_stray 9 = .ok (.isub, 1) := by decide +kernel
theorem dX1_stray_10 : decode cX1_stray 10 = .ok (.invokestatic 44, 3) := by decide +kernel
theorem dX1_stray_13 : decode cX1_stray 13 = .ok (.ifCond .eq 11, 3) := by decide +kernel
theorem dX1_stray_16 : decode cX1_stray 16 = .ok (.aload_n 0, 1) := by decide +kernel
theorem dX1_stray_17 : decode cX1_stray 17 = .ok (.iload_n 1, 1) := by decide +kernel
theorem dX1_stray_18 : decode cX1_stray 18 = .ok (.invokevirtual 128, 3) := by decide +kernel
theorem dX1_stray_21 : decode cX1_stray 21 = .ok (.goto 4, 3) := by decide +kernel
theorem dX1_stray_24 : decode cX1_stray 24 = .ok (.iconst (-1), 1) := by decide +kernel
theorem dX1_stray_25 : decode cX1_stray 25 = .ok (.ireturn, 1) := by decide +kernel
set_option maxRecDepth 20000 in
theorem ggX1_nearest_X1_far : GoodIn wsX1_nearest wsX1_far := goodIn_r _ [7, 8, 9, 6, 10] (by decide +kernel) (by decide +kernel)
set_option maxRecDepth 20000 in
theorem gX1_nearest_X1_far : GoodIn wsX1_nearest (va_wsS RX1 125 yX1_far wsX1_far) := goodIn_app (goodIn_of _ (by decide +kernel)) ggX1_nearest_X1_far
theorem dX1_nearest_0 : decode cX1_nearest 0 = .ok (.iconst 0, 1) := by decide +kernel
theorem dX1_nearest_1 : decode cX1_nearest 1 = .ok (.istore_n 1, 1) := by decide +kernel
theorem dX1_nearest_2 : decode cX1_nearest 2 = .ok (.iconst 0, 1) := by decide +kernel
theorem dX1_nearest_3 : decode cX1_nearest 3 = .ok (.istore_n 2, 1) := by decide +kernel
theorem dX1_nearest_4 : decode cX1_nearest 4 = .ok (.iconst 0, 1) := by decide +kernel
theorem dX1_nearest_5 : decode cX1_nearest 5 = .ok (.istore_n 3, 1) := by decide +kernel
theorem dX1_nearest_6 : decode cX1_nearest 6 = .ok (.iconst 0, 1) := by decide +kernel
theorem dX1_nearest_7 : decode cX1_nearest 7 = .ok (.istore 4, 2) := by decide +kernel
theorem dX1_nearest_9 : decode cX1_nearest 9 = .ok (.iload 4, 2) := by decide +kernel
theorem dX1_nearest_11 : decode cX1_nearest 11 = .ok (.aload_n 0, 1) := by decide +kernel
theorem dX1_nearest_12 : decode cX1_nearest 12 = .ok (.getfield 122, 3) := by decide +kernel
theorem dX1_nearest_15 : decode cX1_nearest 15 = .ok (.if_icmp .ge 115, 3) := by decide +kernel
theorem dX1_nearest_18 : decode cX1_nearest 18 = .ok (.iload_n 1, 1) := by decide +kernel
theorem dX1_nearest_19 : decode cX1_nearest 19 = .ok (.aload_n 0, 1) := by decide +kernel
theorem dX1_nearest_20 : decode cX1_nearest 20 = .ok (.getfield 29, 3) := by decide +kernel
theorem dX1_nearest_23 : decode cX1_nearest 23 = .ok (.iload 4, 2) := by decide +kernel
theorem dX1_nearest_25 : decode cX1_nearest 25 = .ok (.iaload, 1) := by decide +kernel
theorem dX1_nearest_26 : decode cX1_nearest 26 = .ok (.isub, 1) := by decide +kernel
theorem dX1_nearest_27 : decode cX1_nearest 27 = .ok (.iload_n 2, 1) := by decide +kernel
theorem dX1_nearest_28 : decode cX1_nearest 28 = .ok (.aload_n 0, 1) := by decide +kernel
theorem dX1_nearest_29 : decode cX1_nearest 29 = .ok (.getfield 32, 3) := by decide +kernel
theorem dX1_nearest_32 : decode cX1_nearest 32 = .ok (.iload 4, 2) := by decide +kernel
theorem dX1_nearest_34 : decode cX1_nearest 34 = .ok (.iaload, 1) := by decide +kernel
theorem dX1_nearest_35 : decode cX1_nearest 35 = .ok (.isub, 1) := by decide +kernel
theorem dX1_nearest_36 : decode cX1_nearest 36 = .ok (.invokestatic 125, 3) := by decide +kernel
theorem dX1_nearest_39 : decode cX1_nearest 39 = .ok (.iload_n 1, 1) := by decide +kernel
theorem dX1_nearest_40 : decode cX1_nearest 40 = .ok (.aload_n 0, 1) := by decide +kernel
theorem dX1_nearest_41 : decode cX1_nearest 41 = .ok (.getfield 29, 3) := by decide +kernel
theorem dX1_nearest_44 : decode cX1_nearest 44 = .ok (.iload 4, 2) := by decide +kernel
theorem dX1_nearest_46 : decode cX1_nearest 46 = .ok (.iaload, 1) := by decide +kernel
theorem dX1_nearest_47 : decode cX1_nearest 47 = .ok (.iadd, 1) := by decide +kernel
theorem dX1_nearest_48 : decode cX1_nearest 48 = .ok (.iload_n 2, 1) := by decide +kernel
theorem dX1_nearest_49 : decode cX1_nearest 49 = .ok (.aload_n 0, 1) := by decide +kernel
theorem dX1_nearest_50 : decode cX1_nearest 50 = .ok (.getfield 32, 3) := by decide +kernel
theorem dX1_nearest_53 : decode cX1_nearest 53 = .ok (.iload 4, 2) := by decide +kernel
theorem dX1_nearest_55 : decode cX1_nearest 55 = .ok (.iaload, 1) := by decide +kernel
theorem dX1_nearest_56 : decode cX1_nearest 56 = .ok (.iadd, 1) := by decide +kernel
theorem dX1_nearest_57 : decode cX1_nearest 57 = .ok (.invokestatic 125, 3) := by decide +kernel
theorem dX1_nearest_60 : decode cX1_nearest 60 = .ok (.if_icmp .ge 7, 3) := by decide +kernel
theorem dX1_nearest_63 : decode cX1_nearest 63 = .ok (.iconst 1, 1) := by decide +kernel
theorem dX1_nearest_64 : decode cX1_nearest 64 = .ok (.goto 4, 3) := by decide +kernel
theorem dX1_nearest_67 : decode cX1_nearest 67 = .ok (.iconst 0, 1) := by decide +kernel
theorem dX1_nearest_68 : decode cX1_nearest 68 = .ok (.istore 5, 2) := by decide +kernel
theorem dX1_nearest_70 : decode cX1_nearest 70 = .ok (.iload 5, 2) := by decide +kernel
theorem dX1_nearest_72 : decode cX1_nearest 72 = .ok (.ifCond .eq 7, 3) := by decide +kernel
theorem dX1_nearest_75 : decode cX1_nearest 75 = .ok (.iconst (-1), 1) := by decide +kernel
theorem dX1_nearest_76 : decode cX1_nearest 76 = .ok (.goto 4, 3) := by decide +kernel
theorem dX1_nearest_79 : decode cX1_nearest 79 = .ok (.iconst 1, 1) := by decide +kernel
theorem dX1_nearest_80 : decode cX1_nearest 80 = .ok (.istore 6, 2) := by decide +kernel
theorem dX1_nearest_82 : decode cX1_nearest 82 = .ok (.iload_n 1, 1) := by decide +kernel
theorem dX1_nearest_83 : decode cX1_nearest 83 = .ok (.iload 6, 2) := by decide +kernel
theorem dX1_nearest_85 : decode cX1_nearest 85 = .ok (.aload_n 0, 1) := by decide +kernel
theorem dX1_nearest_86 : decode cX1_nearest 86 = .ok (.getfield 29, 3) := by decide +kernel
theorem dX1_nearest_89 : decode cX1_nearest 89 = .ok (.iload 4, 2) := by decide +kernel
theorem dX1_nearest_91 : decode cX1_nearest 91 = .ok (.iaload, 1) := by decide +kernel
theorem dX1_nearest_92 : decode cX1_nearest 92 = .ok (.imul, 1) := by decide +kernel
theorem dX1_nearest_93 : decode cX1_nearest 93 = .ok (.iadd, 1) := by decide +kernel
theorem dX1_nearest_94 : decode cX1_nearest 94 = .ok (.istore_n 1, 1) := by decide +kernel
theorem dX1_nearest_95 : decode cX1_nearest 95 = .ok (.iload_n 2, 1) := by decide +kernel
theorem dX1_nearest_96 : decode cX1_nearest 96 = .ok (.iload 6, 2) := by decide +kernel
theorem dX1_nearest_98 : decode cX1_nearest 98 = .ok (.aload_n 0, 1) := by decide +kernel
theorem dX1_nearest_99 : decode cX1_nearest 99 = .ok (.getfield 32, 3) := by decide +kernel
theorem dX1_nearest_102 : decode cX1_nearest 102 = .ok (.iload 4, 2) := by decide +kernel
theorem dX1_nearest_104 : decode cX1_nearest 104 = .ok (.iaload, 1) := by decide +kernel
theorem dX1_nearest_105 : decode cX1_nearest 105 = .ok (.imul, 1) := by decide +kernel
theorem dX1_nearest_106 : decode cX1_nearest 106 = .ok (.iadd, 1) := by decide +kernel
theorem dX1_nearest_107 : decode cX1_nearest 107 = .ok (.istore_n 2, 1) := by decide +kernel
theorem dX1_nearest_108 : decode cX1_nearest 108 = .ok (.iload_n 3, 1) := by decide +kernel
theorem dX1_nearest_109 : decode cX1_nearest 109 = .ok (.iload 5, 2) := by decide +kernel
theorem dX1_nearest_111 : decode cX1_nearest 111 = .ok (.ifCond .eq 10, 3) := by decide +kernel
theorem dX1_nearest_114 : decode cX1_nearest 114 = .ok (.iconst 1, 1) := by decide +kernel
theorem dX1_nearest_115 : decode cX1_nearest 115 = .ok (.iload 4, 2) := by decide +kernel
theorem dX1_nearest_117 : decode cX1_nearest 117 = .ok (.ishl, 1) := by decide +kernel
theorem dX1_nearest_118 : decode cX1_nearest 118 = .ok (.goto 4, 3) := by decide +kernel
theorem dX1_nearest_121 : decode cX1_nearest 121 = .ok (.iconst 0, 1) := by decide +kernel
theorem dX1_nearest_122 : decode cX1_nearest 122 = .ok (.ior, 1) := by decide +kernel
theorem dX1_nearest_123 : decode cX1_nearest 123 = .ok (.istore_n 3, 1) := by decide +kernel
theorem dX1_nearest_124 : decode cX1_nearest 124 = .ok (.iinc 4 1, 3) := by decide +kernel
theorem dX1_nearest_127 : decode cX1_nearest 127 = .ok (.goto (-118), 3) := by decide +kernel
theorem dX1_nearest_130 : decode cX1_nearest 130 = .ok (.iload_n 3, 1) := by decide +kernel
theorem dX1_nearest_131 : decode cX1_nearest 131 = .ok (.ireturn, 1) := by decide +kernel
set_option maxRecDepth 20000 in
theorem ggX1_straight_X1_in : GoodIn wsX1_straight wsX1_in := goodIn_r _ [5] (by decide +kernel) (by decide +kernel)
set_option maxRecDepth 20000 in
theorem gX1_straight_X1_in : GoodIn wsX1_straight (va_wsS RX1 44 yX1_in wsX1_in) := goodIn_app (goodIn_of _ (by decide +kernel)) ggX1_straight_X1_in
set_option maxRecDepth 20000 in
theorem ggX1_straight_X1_nearest : GoodIn wsX1_straight wsX1_nearest := goodIn_r _ [9, 1, 10, 11, 12, 13, 4, 14, 15, 16, 17, 22, 23, 24, 25, 26, 27, 28, 29, 30, 31, 32, 33, 34, 35, 36, 37] (by decide +kernel) (by decide +kernel)
set_option maxRecDepth 20000 in
theorem gX1_straight_X1_nearest : GoodIn wsX1_straight (wsV RX1 131 RX1 yX1_nearest wsX1_nearest) := goodIn_app (goodIn_of _ (by decide +kernel)) ggX1_straight_X1_nearest
set_option maxRecDepth 20000 in
theorem ggX1_straight_X1_strayOf : GoodIn wsX1_straight wsX1_strayOf := goodIn_r _ [21, 1, 10, 11, 12, 13, 4, 14, 15, 16, 17, 22, 23, 24, 25, 26, 27, 28, 29, 30, 31, 32, 33, 34, 35, 36, 37] (by decide +kernel) (by decide +kernel)
set_option maxRecDepth 20000 in
theorem gX1_straight_X1_strayOf : GoodIn wsX1_straight (wsV RX1 128 RX1 yX1_strayOf wsX1_strayOf) := goodIn_app (goodIn_of _ (by decide +kernel)) ggX1_straight_X1_strayOf
theorem dX1_straight_0 : decode cX1_straight 0 = .ok (.iload_n 1, 1) := by decide +kernel
theorem dX1_straight_1 : decode cX1_straight 1 = .ok (.iconst 0, 1) := by decide +kernel
theorem dX1_straight_2 : decode cX1_straight 2 = .ok (.iconst 2, 1) := by decide +kernel
theorem dX1_straight_3 : decode cX1_straight 3 = .ok (.invokestatic 44, 3) := by decide +kernel
theorem dX1_straight_6 : decode cX1_straight 6 = .ok (.ifCond .ne 5, 3) := by decide +kernel
theorem dX1_straight_9 : decode cX1_straight 9 = .ok (.iconst (-1), 1) := by decide +kernel
theorem dX1_straight_10 : decode cX1_straight 10 = .ok (.ireturn, 1) := by decide +kernel
theorem dX1_straight_11 : decode cX1_straight 11 = .ok (.iload_n 1, 1) := by decide +kernel
theorem dX1_straight_12 : decode cX1_straight 12 = .ok (.iconst 2, 1) := by decide +kernel
theorem dX1_straight_13 : decode cX1_straight 13 = .ok (.if_icmp .ne 8, 3) := by decide +kernel
theorem dX1_straight_16 : decode cX1_straight 16 = .ok (.aload_n 0, 1) := by decide +kernel
theorem dX1_straight_17 : decode cX1_straight 17 = .ok (.invokevirtual 131, 3) := by decide +kernel
theorem dX1_straight_20 : decode cX1_straight 20 = .ok (.ireturn, 1) := by decide +kernel
theorem dX1_straight_21 : decode cX1_straight 21 = .ok (.iconst 0, 1) := by decide +kernel
theorem dX1_straight_22 : decode cX1_straight 22 = .ok (.istore_n 2, 1) := by decide +kernel
theorem dX1_straight_23 : decode cX1_straight 23 = .ok (.aload_n 0, 1) := by decide +kernel
theorem dX1_straight_24 : decode cX1_straight 24 = .ok (.iconst 0, 1) := by decide +kernel
theorem dX1_straight_25 : decode cX1_straight 25 = .ok (.invokevirtual 128, 3) := by decide +kernel
theorem dX1_straight_28 : decode cX1_straight 28 = .ok (.istore_n 3, 1) := by decide +kernel
theorem dX1_straight_29 : decode cX1_straight 29 = .ok (.iconst 1, 1) := by decide +kernel
theorem dX1_straight_30 : decode cX1_straight 30 = .ok (.istore 4, 2) := by decide +kernel
theorem dX1_straight_32 : decode cX1_straight 32 = .ok (.iload 4, 2) := by decide +kernel
theorem dX1_straight_34 : decode cX1_straight 34 = .ok (.iconst 1, 1) := by decide +kernel
theorem dX1_straight_35 : decode cX1_straight 35 = .ok (.aload_n 0, 1) := by decide +kernel
theorem dX1_straight_36 : decode cX1_straight 36 = .ok (.getfield 122, 3) := by decide +kernel
theorem dX1_straight_39 : decode cX1_straight 39 = .ok (.ishl, 1) := by decide +kernel
theorem dX1_straight_40 : decode cX1_straight 40 = .ok (.if_icmp .ge 43, 3) := by decide +kernel
theorem dX1_straight_43 : decode cX1_straight 43 = .ok (.aload_n 0, 1) := by decide +kernel
theorem dX1_straight_44 : decode cX1_straight 44 = .ok (.iload 4, 2) := by decide +kernel
theorem dX1_straight_46 : decode cX1_straight 46 = .ok (.invokevirtual 128, 3) := by decide +kernel
theorem dX1_straight_49 : decode cX1_straight 49 = .ok (.istore 5, 2) := by decide +kernel
theorem dX1_straight_51 : decode cX1_straight 51 = .ok (.iload 5, 2) := by decide +kernel
theorem dX1_straight_53 : decode cX1_straight 53 = .ok (.iload_n 3, 1) := by decide +kernel
theorem dX1_straight_54 : decode cX1_straight 54 = .ok (.if_icmp .ge 8, 3) := by decide +kernel
theorem dX1_straight_57 : decode cX1_straight 57 = .ok (.iload 4, 2) := by decide +kernel
theorem dX1_straight_59 : decode cX1_straight 59 = .ok (.goto 4, 3) := by decide +kernel
theorem dX1_straight_62 : decode cX1_straight 62 = .ok (.iload_n 2, 1) := by decide +kernel
theorem dX1_straight_63 : decode cX1_straight 63 = .ok (.istore_n 2, 1) := by decide +kernel
theorem dX1_straight_64 : decode cX1_straight 64 = .ok (.iload 5, 2) := by decide +kernel
theorem dX1_straight_66 : decode cX1_straight 66 = .ok (.iload_n 3, 1) := by decide +kernel
theorem dX1_straight_67 : decode cX1_straight 67 = .ok (.if_icmp .ge 8, 3) := by decide +kernel
theorem dX1_straight_70 : decode cX1_straight 70 = .ok (.iload 5, 2) := by decide +kernel
theorem dX1_straight_72 : decode cX1_straight 72 = .ok (.goto 4, 3) := by decide +kernel
theorem dX1_straight_75 : decode cX1_straight 75 = .ok (.iload_n 3, 1) := by decide +kernel
theorem dX1_straight_76 : decode cX1_straight 76 = .ok (.istore_n 3, 1) := by decide +kernel
theorem dX1_straight_77 : decode cX1_straight 77 = .ok (.iinc 4 1, 3) := by decide +kernel
theorem dX1_straight_80 : decode cX1_straight 80 = .ok (.goto (-48), 3) := by decide +kernel
theorem dX1_straight_83 : decode cX1_straight 83 = .ok (.iload_n 1, 1) := by decide +kernel
theorem dX1_straight_84 : decode cX1_straight 84 = .ok (.ifCond .ne 7, 3) := by decide +kernel
theorem dX1_straight_87 : decode cX1_straight 87 = .ok (.iload_n 3, 1) := by decide +kernel
theorem dX1_straight_88 : decode cX1_straight 88 = .ok (.goto 4, 3) := by decide +kernel
theorem dX1_straight_91 : decode cX1_straight 91 = .ok (.iload_n 2, 1) := by decide +kernel
theorem dX1_straight_92 : decode cX1_straight 92 = .ok (.ireturn, 1) := by decide +kernel
theorem dX1_count_0 : decode cX1_count 0 = .ok (.iconst 0, 1) := by decide +kernel
theorem dX1_count_1 : decode cX1_count 1 = .ok (.istore_n 2, 1) := by decide +kernel
theorem dX1_count_2 : decode cX1_count 2 = .ok (.iload_n 1, 1) := by decide +kernel
theorem dX1_count_3 : decode cX1_count 3 = .ok (.tableswitch 79 0 3 #[29, 34, 39, 44], 29) := by decide +kernel
theorem dX1_count_32 : decode cX1_count 32 = .ok (.aload_n 0, 1) := by decide +kernel
theorem dX1_count_33 : decode cX1_count 33 = .ok (.getfield 7, 3) := by decide +kernel
theorem dX1_count_36 : decode cX1_count 36 = .ok (.ireturn, 1) := by decide +kernel
theorem dX1_count_37 : decode cX1_count 37 = .ok (.aload_n 0, 1) := by decide +kernel
theorem dX1_count_38 : decode cX1_count 38 = .ok (.getfield 41, 3) := by decide +kernel
theorem dX1_count_41 : decode cX1_count 41 = .ok (.ireturn, 1) := by decide +kernel
theorem dX1_count_42 : decode cX1_count 42 = .ok (.aload_n 0, 1) := by decide +kernel
theorem dX1_count_43 : decode cX1_count 43 = .ok (.getfield 122, 3) := by decide +kernel
theorem dX1_count_46 : decode cX1_count 46 = .ok (.ireturn, 1) := by decide +kernel
theorem dX1_count_47 : decode cX1_count 47 = .ok (.iconst 0, 1) := by decide +kernel
theorem dX1_count_48 : decode cX1_count 48 = .ok (.istore_n 3, 1) := by decide +kernel
theorem dX1_count_49 : decode cX1_count 49 = .ok (.iload_n 3, 1) := by decide +kernel
theorem dX1_count_50 : decode cX1_count 50 = .ok (.aload_n 0, 1) := by decide +kernel
theorem dX1_count_51 : decode cX1_count 51 = .ok (.getfield 7, 3) := by decide +kernel
theorem dX1_count_54 : decode cX1_count 54 = .ok (.if_icmp .ge 26, 3) := by decide +kernel
theorem dX1_count_57 : decode cX1_count 57 = .ok (.iload_n 2, 1) := by decide +kernel
theorem dX1_count_58 : decode cX1_count 58 = .ok (.aload_n 0, 1) := by decide +kernel
theorem dX1_count_59 : decode cX1_count 59 = .ok (.getfield 17, 3) := by decide +kernel
theorem dX1_count_62 : decode cX1_count 62 = .ok (.iload_n 3, 1) := by decide +kernel
theorem dX1_count_63 : decode cX1_count 63 = .ok (.iaload, 1) := by decide +kernel
theorem dX1_count_64 : decode cX1_count 64 = .ok (.ifCond .ge 7, 3) := by decide +kernel
theorem dX1_count_67 : decode cX1_count 67 = .ok (.iconst 0, 1) := by decide +kernel
theorem dX1_count_68 : decode cX1_count 68 = .ok (.goto 4, 3) := by decide +kernel
theorem dX1_count_71 : decode cX1_count 71 = .ok (.iconst 1, 1) := by decide +kernel
theorem dX1_count_72 : decode cX1_count 72 = .ok (.iadd, 1) := by decide +kernel
theorem dX1_count_73 : decode cX1_count 73 = .ok (.istore_n 2, 1) := by decide +kernel
theorem dX1_count_74 : decode cX1_count 74 = .ok (.iinc 3 1, 3) := by decide +kernel
theorem dX1_count_77 : decode cX1_count 77 = .ok (.goto (-28), 3) := by decide +kernel
theorem dX1_count_80 : decode cX1_count 80 = .ok (.iload_n 2, 1) := by decide +kernel
theorem dX1_count_81 : decode cX1_count 81 = .ok (.ireturn, 1) := by decide +kernel
theorem dX1_count_82 : decode cX1_count 82 = .ok (.iconst (-1), 1) := by decide +kernel
theorem dX1_count_83 : decode cX1_count 83 = .ok (.ireturn, 1) := by decide +kernel
theorem dX1_trace_0 : decode cX1_trace 0 = .ok (.aload_n 0, 1) := by decide +kernel
theorem dX1_trace_1 : decode cX1_trace 1 = .ok (.getfield 62, 3) := by decide +kernel
theorem dX1_trace_4 : decode cX1_trace 4 = .ok (.lreturn, 1) := by decide +kernel
theorem dJ6_bitCount_0f7a4_0 : decode cJ6_bitCount_0f7a4 0 = .ok (.iload_n 0, 1) := by decide +kernel
theorem dJ6_bitCount_0f7a4_1 : decode cJ6_bitCount_0f7a4 1 = .ok (.iload_n 0, 1) := by decide +kernel
theorem dJ6_bitCount_0f7a4_2 : decode cJ6_bitCount_0f7a4 2 = .ok (.iconst 1, 1) := by decide +kernel
theorem dJ6_bitCount_0f7a4_3 : decode cJ6_bitCount_0f7a4 3 = .ok (.iushr, 1) := by decide +kernel
theorem dJ6_bitCount_0f7a4_4 : decode cJ6_bitCount_0f7a4 4 = .ok (.ldc_w 265, 3) := by decide +kernel
theorem dJ6_bitCount_0f7a4_7 : decode cJ6_bitCount_0f7a4 7 = .ok (.iand, 1) := by decide +kernel
theorem dJ6_bitCount_0f7a4_8 : decode cJ6_bitCount_0f7a4 8 = .ok (.isub, 1) := by decide +kernel
theorem dJ6_bitCount_0f7a4_9 : decode cJ6_bitCount_0f7a4 9 = .ok (.istore_n 0, 1) := by decide +kernel
theorem dJ6_bitCount_0f7a4_10 : decode cJ6_bitCount_0f7a4 10 = .ok (.iload_n 0, 1) := by decide +kernel
theorem dJ6_bitCount_0f7a4_11 : decode cJ6_bitCount_0f7a4 11 = .ok (.ldc_w 266, 3) := by decide +kernel
theorem dJ6_bitCount_0f7a4_14 : decode cJ6_bitCount_0f7a4 14 = .ok (.iand, 1) := by decide +kernel
theorem dJ6_bitCount_0f7a4_15 : decode cJ6_bitCount_0f7a4 15 = .ok (.iload_n 0, 1) := by decide +kernel
theorem dJ6_bitCount_0f7a4_16 : decode cJ6_bitCount_0f7a4 16 = .ok (.iconst 2, 1) := by decide +kernel
theorem dJ6_bitCount_0f7a4_17 : decode cJ6_bitCount_0f7a4 17 = .ok (.iushr, 1) := by decide +kernel
theorem dJ6_bitCount_0f7a4_18 : decode cJ6_bitCount_0f7a4 18 = .ok (.ldc_w 266, 3) := by decide +kernel
theorem dJ6_bitCount_0f7a4_21 : decode cJ6_bitCount_0f7a4 21 = .ok (.iand, 1) := by decide +kernel
theorem dJ6_bitCount_0f7a4_22 : decode cJ6_bitCount_0f7a4 22 = .ok (.iadd, 1) := by decide +kernel
theorem dJ6_bitCount_0f7a4_23 : decode cJ6_bitCount_0f7a4 23 = .ok (.istore_n 0, 1) := by decide +kernel
theorem dJ6_bitCount_0f7a4_24 : decode cJ6_bitCount_0f7a4 24 = .ok (.iload_n 0, 1) := by decide +kernel
theorem dJ6_bitCount_0f7a4_25 : decode cJ6_bitCount_0f7a4 25 = .ok (.iload_n 0, 1) := by decide +kernel
theorem dJ6_bitCount_0f7a4_26 : decode cJ6_bitCount_0f7a4 26 = .ok (.iconst 4, 1) := by decide +kernel
theorem dJ6_bitCount_0f7a4_27 : decode cJ6_bitCount_0f7a4 27 = .ok (.iushr, 1) := by decide +kernel
theorem dJ6_bitCount_0f7a4_28 : decode cJ6_bitCount_0f7a4 28 = .ok (.iadd, 1) := by decide +kernel
theorem dJ6_bitCount_0f7a4_29 : decode cJ6_bitCount_0f7a4 29 = .ok (.ldc_w 267, 3) := by decide +kernel
theorem dJ6_bitCount_0f7a4_32 : decode cJ6_bitCount_0f7a4 32 = .ok (.iand, 1) := by decide +kernel
theorem dJ6_bitCount_0f7a4_33 : decode cJ6_bitCount_0f7a4 33 = .ok (.istore_n 0, 1) := by decide +kernel
theorem dJ6_bitCount_0f7a4_34 : decode cJ6_bitCount_0f7a4 34 = .ok (.iload_n 0, 1) := by decide +kernel
theorem dJ6_bitCount_0f7a4_35 : decode cJ6_bitCount_0f7a4 35 = .ok (.iload_n 0, 1) := by decide +kernel
theorem dJ6_bitCount_0f7a4_36 : decode cJ6_bitCount_0f7a4 36 = .ok (.bipush 8, 2) := by decide +kernel
theorem dJ6_bitCount_0f7a4_38 : decode cJ6_bitCount_0f7a4 38 = .ok (.iushr, 1) := by decide +kernel
theorem dJ6_bitCount_0f7a4_39 : decode cJ6_bitCount_0f7a4 39 = .ok (.iadd, 1) := by decide +kernel
theorem dJ6_bitCount_0f7a4_40 : decode cJ6_bitCount_0f7a4 40 = .ok (.istore_n 0, 1) := by decide +kernel
theorem dJ6_bitCount_0f7a4_41 : decode cJ6_bitCount_0f7a4 41 = .ok (.iload_n 0, 1) := by decide +kernel
theorem dJ6_bitCount_0f7a4_42 : decode cJ6_bitCount_0f7a4 42 = .ok (.iload_n 0, 1) := by decide +kernel
theorem dJ6_bitCount_0f7a4_43 : decode cJ6_bitCount_0f7a4 43 = .ok (.bipush 16, 2) := by decide +kernel
theorem dJ6_bitCount_0f7a4_45 : decode cJ6_bitCount_0f7a4 45 = .ok (.iushr, 1) := by decide +kernel
theorem dJ6_bitCount_0f7a4_46 : decode cJ6_bitCount_0f7a4 46 = .ok (.iadd, 1) := by decide +kernel
theorem dJ6_bitCount_0f7a4_47 : decode cJ6_bitCount_0f7a4 47 = .ok (.istore_n 0, 1) := by decide +kernel
theorem dJ6_bitCount_0f7a4_48 : decode cJ6_bitCount_0f7a4 48 = .ok (.iload_n 0, 1) := by decide +kernel
theorem dJ6_bitCount_0f7a4_49 : decode cJ6_bitCount_0f7a4 49 = .ok (.bipush 63, 2) := by decide +kernel
theorem dJ6_bitCount_0f7a4_51 : decode cJ6_bitCount_0f7a4 51 = .ok (.iand, 1) := by decide +kernel
theorem dJ6_bitCount_0f7a4_52 : decode cJ6_bitCount_0f7a4 52 = .ok (.ireturn, 1) := by decide +kernel
theorem dJ9_abs_0f7a4_0 : decode cJ9_abs_0f7a4 0 = .ok (.iload_n 0, 1) := by decide +kernel
theorem dJ9_abs_0f7a4_1 : decode cJ9_abs_0f7a4 1 = .ok (.ifCond .ge 8, 3) := by decide +kernel
theorem dJ9_abs_0f7a4_4 : decode cJ9_abs_0f7a4 4 = .ok (.iload_n 0, 1) := by decide +kernel
theorem dJ9_abs_0f7a4_5 : decode cJ9_abs_0f7a4 5 = .ok (.ineg, 1) := by decide +kernel
theorem dJ9_abs_0f7a4_6 : decode cJ9_abs_0f7a4 6 = .ok (.goto 4, 3) := by decide +kernel
theorem dJ9_abs_0f7a4_9 : decode cJ9_abs_0f7a4 9 = .ok (.iload_n 0, 1) := by decide +kernel
theorem dJ9_abs_0f7a4_10 : decode cJ9_abs_0f7a4 10 = .ok (.ireturn, 1) := by decide +kernel
theorem dJ9_max_7cf53_0 : decode cJ9_max_7cf53 0 = .ok (.iload_n 0, 1) := by decide +kernel
theorem dJ9_max_7cf53_1 : decode cJ9_max_7cf53 1 = .ok (.iload_n 1, 1) := by decide +kernel
theorem dJ9_max_7cf53_2 : decode cJ9_max_7cf53 2 = .ok (.if_icmp .lt 7, 3) := by decide +kernel
theorem dJ9_max_7cf53_5 : decode cJ9_max_7cf53 5 = .ok (.iload_n 0, 1) := by decide +kernel
theorem dJ9_max_7cf53_6 : decode cJ9_max_7cf53 6 = .ok (.goto 4, 3) := by decide +kernel
theorem dJ9_max_7cf53_9 : decode cJ9_max_7cf53 9 = .ok (.iload_n 1, 1) := by decide +kernel
theorem dJ9_max_7cf53_10 : decode cJ9_max_7cf53 10 = .ok (.ireturn, 1) := by decide +kernel
theorem dJ9_min_7cf53_0 : decode cJ9_min_7cf53 0 = .ok (.iload_n 0, 1) := by decide +kernel
theorem dJ9_min_7cf53_1 : decode cJ9_min_7cf53 1 = .ok (.iload_n 1, 1) := by decide +kernel
theorem dJ9_min_7cf53_2 : decode cJ9_min_7cf53 2 = .ok (.if_icmp .gt 7, 3) := by decide +kernel
theorem dJ9_min_7cf53_5 : decode cJ9_min_7cf53 5 = .ok (.iload_n 0, 1) := by decide +kernel
theorem dJ9_min_7cf53_6 : decode cJ9_min_7cf53 6 = .ok (.goto 4, 3) := by decide +kernel
theorem dJ9_min_7cf53_9 : decode cJ9_min_7cf53 9 = .ok (.iload_n 1, 1) := by decide +kernel
theorem dJ9_min_7cf53_10 : decode cJ9_min_7cf53 10 = .ok (.ireturn, 1) := by decide +kernel
theorem dJ7_fill_53178_0 : decode cJ7_fill_53178 0 = .ok (.iconst 0, 1) := by decide +kernel
theorem dJ7_fill_53178_1 : decode cJ7_fill_53178 1 = .ok (.istore_n 2, 1) := by decide +kernel
theorem dJ7_fill_53178_2 : decode cJ7_fill_53178 2 = .ok (.aload_n 0, 1) := by decide +kernel
theorem dJ7_fill_53178_3 : decode cJ7_fill_53178 3 = .ok (.arraylength, 1) := by decide +kernel
theorem dJ7_fill_53178_4 : decode cJ7_fill_53178 4 = .ok (.istore_n 3, 1) := by decide +kernel
theorem dJ7_fill_53178_5 : decode cJ7_fill_53178 5 = .ok (.iload_n 2, 1) := by decide +kernel
theorem dJ7_fill_53178_6 : decode cJ7_fill_53178 6 = .ok (.iload_n 3, 1) := by decide +kernel
theorem dJ7_fill_53178_7 : decode cJ7_fill_53178 7 = .ok (.if_icmp .ge 13, 3) := by decide +kernel
theorem dJ7_fill_53178_10 : decode cJ7_fill_53178 10 = .ok (.aload_n 0, 1) := by decide +kernel
theorem dJ7_fill_53178_11 : decode cJ7_fill_53178 11 = .ok (.iload_n 2, 1) := by decide +kernel
theorem dJ7_fill_53178_12 : decode cJ7_fill_53178 12 = .ok (.iload_n 1, 1) := by decide +kernel
theorem dJ7_fill_53178_13 : decode cJ7_fill_53178 13 = .ok (.iastore, 1) := by decide +kernel
theorem dJ7_fill_53178_14 : decode cJ7_fill_53178 14 = .ok (.iinc 2 1, 3) := by decide +kernel
theorem dJ7_fill_53178_17 : decode cJ7_fill_53178 17 = .ok (.goto (-12), 3) := by decide +kernel
theorem dJ7_fill_53178_20 : decode cJ7_fill_53178 20 = .ok (.return_, 1) := by decide +kernel
set_option maxRecDepth 20000 in
theorem ggL_law_X0_init : GoodIn wsL_law wsX0_init := goodIn_r _ [8, 9, 10, 11, 12, 13, 14, 15, 16, 17, 18, 19, 20, 21, 22, 23, 24, 25, 26, 27, 28, 29, 30, 2, 31, 32, 33, 34, 35, 458, 459, 460, 461, 462, 463, 464, 465, 466, 467, 468, 469, 470, 471, 472] (by decide +kernel) (by decide +kernel)
set_option maxRecDepth 20000 in
theorem gL_law_X0_init : GoodIn wsL_law (wsX0_init) := ggL_law_X0_init
set_option maxRecDepth 20000 in
theorem ggL_law_X1_init : GoodIn wsL_law wsX1_init := goodIn_r _ [38, 39, 10, 11, 40, 13, 41, 42, 43, 44, 45, 46, 47, 48, 49, 50, 473, 474, 475, 476, 477, 478, 479, 480, 481, 482, 483, 484, 485, 486, 487, 488] (by decide +kernel) (by decide +kernel)
set_option maxRecDepth 20000 in
theorem gL_law_X1_init : GoodIn wsL_law (wsX1_init) := ggL_law_X1_init
set_option maxRecDepth 20000 in
theorem ggL_law_X0_things : GoodIn wsL_law wsX0_things := goodIn_r _ [54, 12, 16, 17, 19, 28, 29, 30, 2, 31, 32, 33, 34, 35, 14, 15, 458, 459, 460, 461, 462, 463, 464, 465, 466, 467, 468, 469, 470, 471, 472] (by decide +kernel) (by decide +kernel)
set_option maxRecDepth 20000 in
theorem gL_law_X0_things : GoodIn wsL_law (wsV RL 13 RX0 yX0_things wsX0_things) := goodIn_app (goodIn_of _ (by decide +kernel)) ggL_law_X0_things
set_option maxRecDepth 20000 in
theorem ggL_law_X1_things : GoodIn wsL_law wsX1_things := goodIn_r _ [58, 40, 50, 41, 42, 59, 60, 5, 61, 473, 474, 475, 476, 477, 478, 479, 480, 481, 482, 483, 484, 485, 486, 487, 488] (by decide +kernel) (by decide +kernel)
set_option maxRecDepth 20000 in
theorem gL_law_X1_things : GoodIn wsL_law (wsV RL 17 RX1 yX1_things wsX1_things) := goodIn_app (goodIn_of _ (by decide +kernel)) ggL_law_X1_things
set_option maxRecDepth 20000 in
theorem ggL_law_X0_swap : GoodIn wsL_law wsX0_swap := goodIn_r _ [65, 14, 19, 23, 20, 21, 22, 66, 67, 68, 2, 69, 12, 32, 33, 34, 35, 15, 70, 71, 72, 73, 74, 75, 76, 77, 78, 79, 80, 81, 82, 83, 458, 459, 460, 461, 462, 463, 464, 465, 466, 467, 468, 469, 470, 471, 472] (by decide +kernel) (by decide +kernel)
set_option maxRecDepth 20000 in
theorem gL_law_X0_swap : GoodIn wsL_law (wsV RL 18 RX0 yX0_swap wsX0_swap) := goodIn_app (goodIn_of _ (by decide +kernel)) ggL_law_X0_swap
set_option maxRecDepth 20000 in
theorem ggL_law_X1_swap : GoodIn wsL_law wsX1_swap := goodIn_r _ [87, 41, 88, 89, 90, 5, 91, 40, 59, 60, 61, 473, 474, 475, 476, 477, 478, 479, 480, 481, 482, 483, 484, 485, 486, 487, 488] (by decide +kernel) (by decide +kernel)
set_option maxRecDepth 20000 in
theorem gL_law_X1_swap : GoodIn wsL_law (wsV RL 22 RX1 yX1_swap wsX1_swap) := goodIn_app (goodIn_of _ (by decide +kernel)) ggL_law_X1_swap
set_option maxRecDepth 20000 in
theorem ggL_law_X0_second : GoodIn wsL_law wsX0_second := goodIn_r _ [95, 14, 66, 67, 68, 2, 69, 12, 458, 459, 460, 461, 462, 463, 464, 465, 466, 467, 468, 469, 470, 471, 472] (by decide +kernel) (by decide +kernel)
set_option maxRecDepth 20000 in
theorem gL_law_X0_second : GoodIn wsL_law (wsV RL 23 RX0 yX0_second wsX0_second) := goodIn_app (goodIn_of _ (by decide +kernel)) ggL_law_X0_second
set_option maxRecDepth 20000 in
theorem ggL_law_X1_second : GoodIn wsL_law wsX1_second := goodIn_r _ [99, 41, 88, 89, 90, 5, 91, 40, 59, 60, 61, 473, 474, 475, 476, 477, 478, 479, 480, 481, 482, 483, 484, 485, 486, 487, 488] (by decide +kernel) (by decide +kernel)
set_option maxRecDepth 20000 in
theorem gL_law_X1_second : GoodIn wsL_law (wsV RL 26 RX1 yX1_second wsX1_second) := goodIn_app (goodIn_of _ (by decide +kernel)) ggL_law_X1_second
set_option maxRecDepth 20000 in
theorem ggL_law_X0_heap : GoodIn wsL_law wsX0_heap := goodIn_r _ [103, 19, 20, 21, 22, 23, 104, 105, 106, 2, 107, 108, 109, 110, 111, 112, 113, 114, 115, 12, 66, 67, 68, 69, 70, 71, 72, 73, 74, 75, 76, 77, 15, 78, 79, 80, 81, 82, 83, 458, 459, 460, 461, 462, 463, 464, 465, 466, 467, 468, 469, 470, 471, 472] (by decide +kernel) (by decide +kernel)
set_option maxRecDepth 20000 in
theorem gL_law_X0_heap : GoodIn wsL_law (wsV RL 27 RX0 yX0_heap wsX0_heap) := goodIn_app (goodIn_of _ (by decide +kernel)) ggL_law_X0_heap
set_option maxRecDepth 20000 in
theorem ggL_law_X1_heap : GoodIn wsL_law wsX1_heap := goodIn_r _ [119, 50, 43, 44, 45, 120, 121, 122, 5, 123, 40, 59, 60, 61, 88, 89, 90, 91, 473, 474, 475, 476, 477, 478, 479, 480, 481, 482, 483, 484, 485, 486, 487, 488] (by decide +kernel) (by decide +kernel)
set_option maxRecDepth 20000 in
theorem gL_law_X1_heap : GoodIn wsL_law (wsV RL 31 RX1 yX1_heap wsX1_heap) := goodIn_app (goodIn_of _ (by decide +kernel)) ggL_law_X1_heap
set_option maxRecDepth 20000 in
theorem ggL_law_X0_drop : GoodIn wsL_law wsX0_drop := goodIn_r _ [127, 19, 458, 459, 460, 461, 462, 463, 464, 465, 466, 467, 468, 469, 470, 471, 472] (by decide +kernel) (by decide +kernel)
set_option maxRecDepth 20000 in
theorem gL_law_X0_drop : GoodIn wsL_law (wsV RL 32 RX0 yX0_drop wsX0_drop) := goodIn_app (goodIn_of _ (by decide +kernel)) ggL_law_X0_drop
set_option maxRecDepth 20000 in
theorem ggL_law_X1_drop : GoodIn wsL_law wsX1_drop := goodIn_r _ [131, 50, 473, 474, 475, 476, 477, 478, 479, 480, 481, 482, 483, 484, 485, 486, 487, 488] (by decide +kernel) (by decide +kernel)
set_option maxRecDepth 20000 in
theorem gL_law_X1_drop : GoodIn wsL_law (wsV RL 36 RX1 yX1_drop wsX1_drop) := goodIn_app (goodIn_of _ (by decide +kernel)) ggL_law_X1_drop
set_option maxRecDepth 20000 in
theorem ggL_law_X0_has : GoodIn wsL_law wsX0_has := goodIn_r _ [135, 27, 20, 23, 136, 137, 138, 2, 139, 19, 66, 67, 68, 69, 12, 140, 141, 142, 81, 82, 83, 458, 459, 460, 461, 462, 463, 464, 465, 466, 467, 468, 469, 470, 471, 472] (by decide +kernel) (by decide +kernel)
set_option maxRecDepth 20000 in
theorem gL_law_X0_has : GoodIn wsL_law (wsV RL 37 RX0 yX0_has wsX0_has) := goodIn_app (goodIn_of _ (by decide +kernel)) ggL_law_X0_has
set_option maxRecDepth 20000 in
theorem ggL_law_X1_has : GoodIn wsL_law wsX1_has := goodIn_r _ [146, 147, 43, 148, 149, 150, 151, 152, 153, 5, 154, 50, 59, 60, 61, 88, 89, 90, 91, 40, 155, 156, 157, 158, 44, 45, 159, 160, 161, 162, 41, 473, 474, 475, 476, 477, 478, 479, 480, 481, 482, 483, 484, 485, 486, 487, 488] (by decide +kernel) (by decide +kernel)
set_option maxRecDepth 20000 in
theorem gL_law_X1_has : GoodIn wsL_law (wsV RL 40 RX1 yX1_has wsX1_has) := goodIn_app (goodIn_of _ (by decide +kernel)) ggL_law_X1_has
set_option maxRecDepth 20000 in
theorem ggL_law_X0_bits : GoodIn wsL_law wsX0_bits := goodIn_r _ [166, 23, 136, 137, 138, 2, 139, 19, 458, 459, 460, 461, 462, 463, 464, 465, 466, 467, 468, 469, 470, 471, 472] (by decide +kernel) (by decide +kernel)
set_option maxRecDepth 20000 in
theorem gL_law_X0_bits : GoodIn wsL_law (wsV RL 41 RX0 yX0_bits wsX0_bits) := goodIn_app (goodIn_of _ (by decide +kernel)) ggL_law_X0_bits
set_option maxRecDepth 20000 in
theorem ggL_law_X1_bits : GoodIn wsL_law wsX1_bits := goodIn_r _ [170, 151, 152, 153, 5, 154, 50, 59, 60, 61, 171, 172, 173, 174, 40, 155, 156, 157, 158, 43, 44, 45, 159, 160, 161, 162, 41, 473, 474, 475, 476, 477, 478, 479, 480, 481, 482, 483, 484, 485, 486, 487, 488] (by decide +kernel) (by decide +kernel)
set_option maxRecDepth 20000 in
theorem gL_law_X1_bits : GoodIn wsL_law (wsV RL 44 RX1 yX1_bits wsX1_bits) := goodIn_app (goodIn_of _ (by decide +kernel)) ggL_law_X1_bits
set_option maxRecDepth 20000 in
theorem ggL_law_X0_hold : GoodIn wsL_law wsX0_hold := goodIn_r _ [178, 17, 16, 66, 67, 68, 2, 69, 12, 179, 180, 181, 182, 81, 82, 83, 458, 459, 460, 461, 462, 463, 464, 465, 466, 467, 468, 469, 470, 471, 472] (by decide +kernel) (by decide +kernel)
set_option maxRecDepth 20000 in
theorem gL_law_X0_hold : GoodIn wsL_law (wsV RL 45 RX0 yX0_hold wsX0_hold) := goodIn_app (goodIn_of _ (by decide +kernel)) ggL_law_X0_hold
set_option maxRecDepth 20000 in
theorem ggL_law_X1_hold : GoodIn wsL_law wsX1_hold := goodIn_r _ [186, 42, 88, 89, 90, 5, 91, 40, 59, 60, 61, 473, 474, 475, 476, 477, 478, 479, 480, 481, 482, 483, 484, 485, 486, 487, 488] (by decide +kernel) (by decide +kernel)
set_option maxRecDepth 20000 in
theorem gL_law_X1_hold : GoodIn wsL_law (wsV RL 48 RX1 yX1_hold wsX1_hold) := goodIn_app (goodIn_of _ (by decide +kernel)) ggL_law_X1_hold
set_option maxRecDepth 20000 in
theorem ggL_law_X0_off : GoodIn wsL_law wsX0_off := goodIn_r _ [190, 108, 109, 110, 2, 111, 112, 113, 114, 115, 12, 136, 137, 138, 139, 19, 191, 192, 193, 194, 23, 195, 196, 197, 198, 199, 200, 201, 202, 203, 204, 205, 206, 207, 208, 458, 459, 460, 461, 462, 463, 464, 465, 466, 467, 468, 469, 470, 471, 472] (by decide +kernel) (by decide +kernel)
set_option maxRecDepth 20000 in
theorem gL_law_X0_off : GoodIn wsL_law (wsV RL 49 RX0 yX0_off wsX0_off) := goodIn_app (goodIn_of _ (by decide +kernel)) ggL_law_X0_off
set_option maxRecDepth 20000 in
theorem ggL_law_X1_off : GoodIn wsL_law wsX1_off := goodIn_r _ [212, 213, 214, 215, 5, 216, 40, 59, 60, 61, 151, 152, 153, 154, 50, 171, 172, 173, 174, 155, 156, 157, 158, 43, 44, 45, 159, 160, 161, 162, 41, 217, 218, 219, 220, 221, 222, 223, 224, 225, 473, 474, 475, 476, 477, 478, 479, 480, 481, 482, 483, 484, 485, 486, 487, 488] (by decide +kernel) (by decide +kernel)
set_option maxRecDepth 20000 in
theorem gL_law_X1_off : GoodIn wsL_law (wsV RL 52 RX1 yX1_off wsX1_off) := goodIn_app (goodIn_of _ (by decide +kernel)) ggL_law_X1_off
set_option maxRecDepth 20000 in
theorem ggL_law_X0_worst : GoodIn wsL_law wsX0_worst := goodIn_r _ [229, 108, 109, 110, 2, 111, 112, 113, 114, 115, 12, 230, 231, 232, 233, 19, 234, 235, 197, 236, 191, 192, 193, 194, 23, 195, 196, 198, 199, 200, 201, 202, 203, 204, 205, 206, 207, 208, 458, 459, 460, 461, 462, 463, 464, 465, 466, 467, 468, 469, 470, 471, 472] (by decide +kernel) (by decide +kernel)
set_option maxRecDepth 20000 in
theorem gL_law_X0_worst : GoodIn wsL_law (wsV RL 53 RX0 yX0_worst wsX0_worst) := goodIn_app (goodIn_of _ (by decide +kernel)) ggL_law_X0_worst
set_option maxRecDepth 20000 in
theorem ggL_law_X1_worst : GoodIn wsL_law wsX1_worst := goodIn_r _ [240, 241, 242, 243, 5, 244, 50, 48, 171, 172, 173, 174, 40, 155, 156, 157, 158, 43, 44, 45, 59, 60, 61, 159, 160, 161, 162, 41, 213, 214, 215, 216, 245, 246, 247, 248, 217, 218, 219, 220, 221, 222, 223, 224, 225, 473, 474, 475, 476, 477, 478, 479, 480, 481, 482, 483, 484, 485, 486, 487, 488] (by decide +kernel) (by decide +kernel)
set_option maxRecDepth 20000 in
theorem gL_law_X1_worst : GoodIn wsL_law (wsV RL 56 RX1 yX1_worst wsX1_worst) := goodIn_app (goodIn_of _ (by decide +kernel)) ggL_law_X1_worst
set_option maxRecDepth 20000 in
theorem ggL_law_X0_squares : GoodIn wsL_law wsX0_squares := goodIn_r _ [252, 108, 109, 110, 2, 111, 112, 113, 114, 115, 12, 253, 254, 255, 256, 19, 191, 192, 193, 194, 23, 195, 196, 197, 198, 199, 200, 201, 202, 203, 204, 205, 206, 207, 208, 458, 459, 460, 461, 462, 463, 464, 465, 466, 467, 468, 469, 470, 471, 472] (by decide +kernel) (by decide +kernel)
set_option maxRecDepth 20000 in
theorem gL_law_X0_squares : GoodIn wsL_law (wsV RL 57 RX0 yX0_squares wsX0_squares) := goodIn_app (goodIn_of _ (by decide +kernel)) ggL_law_X0_squares
set_option maxRecDepth 20000 in
theorem ggL_law_X1_squares : GoodIn wsL_law wsX1_squares := goodIn_r _ [260, 241, 242, 243, 5, 244, 50, 48, 171, 172, 173, 174, 40, 155, 156, 157, 158, 43, 44, 45, 59, 60, 61, 159, 160, 161, 162, 41, 213, 214, 215, 216, 261, 262, 263, 264, 217, 218, 219, 220, 221, 222, 223, 224, 225, 473, 474, 475, 476, 477, 478, 479, 480, 481, 482, 483, 484, 485, 486, 487, 488] (by decide +kernel) (by decide +kernel)
set_option maxRecDepth 20000 in
theorem gL_law_X1_squares : GoodIn wsL_law (wsV RL 60 RX1 yX1_squares wsX1_squares) := goodIn_app (goodIn_of _ (by decide +kernel)) ggL_law_X1_squares
set_option maxRecDepth 20000 in
theorem ggL_law_X0_times : GoodIn wsL_law wsX0_times := goodIn_r _ [268, 12, 19, 23, 234, 235, 197, 236, 81, 82, 2, 83, 458, 459, 460, 461, 462, 463, 464, 465, 466, 467, 468, 469, 470, 471, 472] (by decide +kernel) (by decide +kernel)
set_option maxRecDepth 20000 in
theorem gL_law_X0_times : GoodIn wsL_law (wsV RL 61 RX0 yX0_times wsX0_times) := goodIn_app (goodIn_of _ (by decide +kernel)) ggL_law_X0_times
set_option maxRecDepth 20000 in
theorem ggL_law_X1_times : GoodIn wsL_law wsX1_times := goodIn_r _ [272, 40, 50, 155, 156, 157, 5, 158, 43, 44, 45, 59, 60, 61, 159, 160, 161, 162, 41, 473, 474, 475, 476, 477, 478, 479, 480, 481, 482, 483, 484, 485, 486, 487, 488] (by decide +kernel) (by decide +kernel)
set_option maxRecDepth 20000 in
theorem gL_law_X1_times : GoodIn wsL_law (wsV RL 64 RX1 yX1_times wsX1_times) := goodIn_app (goodIn_of _ (by decide +kernel)) ggL_law_X1_times
set_option maxRecDepth 20000 in
theorem ggL_law_X0_least : GoodIn wsL_law wsX0_least := goodIn_r _ [276, 277, 278, 279, 2, 280, 17, 230, 231, 232, 233, 19, 234, 235, 197, 236, 191, 192, 193, 194, 23, 195, 196, 198, 199, 200, 201, 202, 203, 204, 205, 206, 207, 208, 112, 113, 114, 115, 12, 281, 282, 283, 284, 16, 458, 459, 460, 461, 462, 463, 464, 465, 466, 467, 468, 469, 470, 471, 472] (by decide +kernel) (by decide +kernel)
set_option maxRecDepth 20000 in
theorem gL_law_X0_least : GoodIn wsL_law (wsV RL 65 RX0 yX0_least wsX0_least) := goodIn_app (goodIn_of _ (by decide +kernel)) ggL_law_X0_least
set_option maxRecDepth 20000 in
theorem ggL_law_X1_least : GoodIn wsL_law wsX1_least := goodIn_r _ [288, 289, 290, 291, 5, 292, 293, 294, 40, 295, 296, 241, 242, 243, 244, 50, 48, 171, 172, 173, 174, 155, 156, 157, 158, 43, 44, 45, 59, 60, 61, 159, 160, 161, 162, 41, 297, 298, 299, 300, 42, 245, 246, 247, 248, 217, 218, 219, 220, 221, 222, 223, 224, 225, 261, 262, 263, 264, 473, 474, 475, 476, 477, 478, 479, 480, 481, 482, 483, 484, 485, 486, 487, 488] (by decide +kernel) (by decide +kernel)
set_option maxRecDepth 20000 in
theorem gL_law_X1_least : GoodIn wsL_law (wsV RL 68 RX1 yX1_least wsX1_least) := goodIn_app (goodIn_of _ (by decide +kernel)) ggL_law_X1_least
set_option maxRecDepth 20000 in
theorem ggL_law_X0_first : GoodIn wsL_law wsX0_first := goodIn_r _ [304, 277, 278, 279, 2, 280, 17, 230, 231, 232, 233, 19, 234, 235, 197, 236, 191, 192, 193, 194, 23, 195, 196, 198, 199, 200, 201, 202, 203, 204, 205, 206, 207, 208, 112, 113, 114, 115, 12, 281, 282, 283, 284, 16, 458, 459, 460, 461, 462, 463, 464, 465, 466, 467, 468, 469, 470, 471, 472] (by decide +kernel) (by decide +kernel)
set_option maxRecDepth 20000 in
theorem gL_law_X0_first : GoodIn wsL_law (wsV RL 69 RX0 yX0_first wsX0_first) := goodIn_app (goodIn_of _ (by decide +kernel)) ggL_law_X0_first
set_option maxRecDepth 20000 in
theorem ggL_law_X1_first : GoodIn wsL_law wsX1_first := goodIn_r _ [308, 295, 289, 290, 291, 5, 292, 293, 294, 40, 296, 241, 242, 243, 244, 50, 48, 171, 172, 173, 174, 155, 156, 157, 158, 43, 44, 45, 59, 60, 61, 159, 160, 161, 162, 41, 297, 298, 299, 300, 42, 245, 246, 247, 248, 217, 218, 219, 220, 221, 222, 223, 224, 225, 261, 262, 263, 264, 473, 474, 475, 476, 477, 478, 479, 480, 481, 482, 483, 484, 485, 486, 487, 488] (by decide +kernel) (by decide +kernel)
set_option maxRecDepth 20000 in
theorem gL_law_X1_first : GoodIn wsL_law (wsV RL 72 RX1 yX1_first wsX1_first) := goodIn_app (goodIn_of _ (by decide +kernel)) ggL_law_X1_first
set_option maxRecDepth 20000 in
theorem ggL_law_X0_many : GoodIn wsL_law wsX0_many := goodIn_r _ [312, 277, 278, 279, 2, 280, 17, 230, 231, 232, 233, 19, 234, 235, 197, 236, 191, 192, 193, 194, 23, 195, 196, 198, 199, 200, 201, 202, 203, 204, 205, 206, 207, 208, 112, 113, 114, 115, 12, 281, 282, 283, 284, 16, 458, 459, 460, 461, 462, 463, 464, 465, 466, 467, 468, 469, 470, 471, 472] (by decide +kernel) (by decide +kernel)
set_option maxRecDepth 20000 in
theorem gL_law_X0_many : GoodIn wsL_law (wsV RL 73 RX0 yX0_many wsX0_many) := goodIn_app (goodIn_of _ (by decide +kernel)) ggL_law_X0_many
set_option maxRecDepth 20000 in
theorem ggL_law_X1_many : GoodIn wsL_law wsX1_many := goodIn_r _ [316, 296, 289, 290, 291, 5, 292, 293, 294, 40, 295, 241, 242, 243, 244, 50, 48, 171, 172, 173, 174, 155, 156, 157, 158, 43, 44, 45, 59, 60, 61, 159, 160, 161, 162, 41, 297, 298, 299, 300, 42, 245, 246, 247, 248, 217, 218, 219, 220, 221, 222, 223, 224, 225, 261, 262, 263, 264, 473, 474, 475, 476, 477, 478, 479, 480, 481, 482, 483, 484, 485, 486, 487, 488] (by decide +kernel) (by decide +kernel)
set_option maxRecDepth 20000 in
theorem gL_law_X1_many : GoodIn wsL_law (wsV RL 76 RX1 yX1_many wsX1_many) := goodIn_app (goodIn_of _ (by decide +kernel)) ggL_law_X1_many
set_option maxRecDepth 20000 in
theorem ggL_law_X0_fewest : GoodIn wsL_law wsX0_fewest := goodIn_r _ [320, 17, 321, 322, 197, 323, 253, 254, 255, 2, 256, 19, 191, 192, 193, 194, 23, 195, 196, 198, 199, 200, 201, 202, 203, 204, 205, 206, 207, 208, 112, 113, 114, 115, 12, 281, 282, 283, 284, 16, 458, 459, 460, 461, 462, 463, 464, 465, 466, 467, 468, 469, 470, 471, 472] (by decide +kernel) (by decide +kernel)
set_option maxRecDepth 20000 in
theorem gL_law_X0_fewest : GoodIn wsL_law (wsV RL 77 RX0 yX0_fewest wsX0_fewest) := goodIn_app (goodIn_of _ (by decide +kernel)) ggL_law_X0_fewest
set_option maxRecDepth 20000 in
theorem ggL_law_X1_fewest : GoodIn wsL_law wsX1_fewest := goodIn_r _ [327, 294, 289, 290, 291, 5, 292, 293, 40, 295, 296, 241, 242, 243, 244, 50, 48, 171, 172, 173, 174, 155, 156, 157, 158, 43, 44, 45, 59, 60, 61, 159, 160, 161, 162, 41, 297, 298, 299, 300, 42, 245, 246, 247, 248, 217, 218, 219, 220, 221, 222, 223, 224, 225, 261, 262, 263, 264, 473, 474, 475, 476, 477, 478, 479, 480, 481, 482, 483, 484, 485, 486, 487, 488] (by decide +kernel) (by decide +kernel)
set_option maxRecDepth 20000 in
theorem gL_law_X1_fewest : GoodIn wsL_law (wsV RL 80 RX1 yX1_fewest wsX1_fewest) := goodIn_app (goodIn_of _ (by decide +kernel)) ggL_law_X1_fewest
set_option maxRecDepth 20000 in
theorem ggL_law_X0_turns : GoodIn wsL_law wsX0_turns := goodIn_r _ [331, 12, 458, 459, 460, 461, 462, 463, 464, 465, 466, 467, 468, 469, 470, 471, 472] (by decide +kernel) (by decide +kernel)
set_option maxRecDepth 20000 in
theorem gL_law_X0_turns : GoodIn wsL_law (wsV RL 81 RX0 yX0_turns wsX0_turns) := goodIn_app (goodIn_of _ (by decide +kernel)) ggL_law_X0_turns
set_option maxRecDepth 20000 in
theorem ggL_law_X1_turns : GoodIn wsL_law wsX1_turns := goodIn_r _ [335, 40, 473, 474, 475, 476, 477, 478, 479, 480, 481, 482, 483, 484, 485, 486, 487, 488] (by decide +kernel) (by decide +kernel)
set_option maxRecDepth 20000 in
theorem gL_law_X1_turns : GoodIn wsL_law (wsV RL 84 RX1 yX1_turns wsX1_turns) := goodIn_app (goodIn_of _ (by decide +kernel)) ggL_law_X1_turns
set_option maxRecDepth 20000 in
theorem ggL_law_X0_pairs : GoodIn wsL_law wsX0_pairs := goodIn_r _ [339, 18, 12, 340, 341, 342, 343, 344, 345, 346, 2, 347, 348, 349, 350, 351, 66, 67, 68, 69, 352, 353, 354, 355, 15, 14, 458, 459, 460, 461, 462, 463, 464, 465, 466, 467, 468, 469, 470, 471, 472] (by decide +kernel) (by decide +kernel)
set_option maxRecDepth 20000 in
theorem gL_law_X0_pairs : GoodIn wsL_law (wsV RL 85 RX0 yX0_pairs wsX0_pairs) := goodIn_app (goodIn_of _ (by decide +kernel)) ggL_law_X0_pairs
set_option maxRecDepth 20000 in
theorem ggL_law_X1_pairs : GoodIn wsL_law wsX1_pairs := goodIn_r _ [359, 40, 49, 360, 361, 362, 5, 363, 41, 159, 160, 161, 162, 473, 474, 475, 476, 477, 478, 479, 480, 481, 482, 483, 484, 485, 486, 487, 488] (by decide +kernel) (by decide +kernel)
set_option maxRecDepth 20000 in
theorem gL_law_X1_pairs : GoodIn wsL_law (wsV RL 88 RX1 yX1_pairs wsX1_pairs) := goodIn_app (goodIn_of _ (by decide +kernel)) ggL_law_X1_pairs
set_option maxRecDepth 20000 in
theorem ggL_law_X0_come : GoodIn wsL_law wsX0_come := goodIn_r _ [367, 12, 368, 369, 370, 2, 371, 17, 19, 23, 179, 180, 181, 182, 16, 81, 82, 83, 199, 200, 201, 202, 203, 204, 205, 206, 207, 208, 458, 459, 460, 461, 462, 463, 464, 465, 466, 467, 468, 469, 470, 471, 472] (by decide +kernel) (by decide +kernel)
set_option maxRecDepth 20000 in
theorem gL_law_X0_come : GoodIn wsL_law (wsV RL 89 RX0 yX0_come wsX0_come) := goodIn_app (goodIn_of _ (by decide +kernel)) ggL_law_X0_come
set_option maxRecDepth 20000 in
theorem ggL_law_X1_come : GoodIn wsL_law wsX1_come := goodIn_r _ [375, 40, 50, 48, 42, 241, 242, 243, 5, 244, 171, 172, 173, 174, 155, 156, 157, 158, 43, 44, 45, 59, 60, 61, 159, 160, 161, 162, 41, 220, 221, 222, 473, 474, 475, 476, 477, 478, 479, 480, 481, 482, 483, 484, 485, 486, 487, 488] (by decide +kernel) (by decide +kernel)
set_option maxRecDepth 20000 in
theorem gL_law_X1_come : GoodIn wsL_law (wsV RL 92 RX1 yX1_come wsX1_come) := goodIn_app (goodIn_of _ (by decide +kernel)) ggL_law_X1_come
set_option maxRecDepth 20000 in
theorem ggL_law_X0_step : GoodIn wsL_law wsX0_step := goodIn_r _ [379, 24, 25, 26, 380, 381, 2, 382, 458, 459, 460, 461, 462, 463, 464, 465, 466, 467, 468, 469, 470, 471, 472] (by decide +kernel) (by decide +kernel)
set_option maxRecDepth 20000 in
theorem gL_law_X0_step : GoodIn wsL_law (wsV RL 93 RX0 yX0_step wsX0_step) := goodIn_app (goodIn_of _ (by decide +kernel)) ggL_law_X0_step
set_option maxRecDepth 20000 in
theorem ggL_law_X1_step : GoodIn wsL_law wsX1_step := goodIn_r _ [386, 387, 46, 47, 59, 60, 5, 61, 473, 474, 475, 476, 477, 478, 479, 480, 481, 482, 483, 484, 485, 486, 487, 488] (by decide +kernel) (by decide +kernel)
set_option maxRecDepth 20000 in
theorem gL_law_X1_step : GoodIn wsL_law (wsV RL 96 RX1 yX1_step wsX1_step) := goodIn_app (goodIn_of _ (by decide +kernel)) ggL_law_X1_step
set_option maxRecDepth 20000 in
theorem ggL_law_X0_clear : GoodIn wsL_law wsX0_clear := goodIn_r _ [391, 24, 458, 459, 460, 461, 462, 463, 464, 465, 466, 467, 468, 469, 470, 471, 472] (by decide +kernel) (by decide +kernel)
set_option maxRecDepth 20000 in
theorem gL_law_X0_clear : GoodIn wsL_law (wsV RL 97 RX0 yX0_clear wsX0_clear) := goodIn_app (goodIn_of _ (by decide +kernel)) ggL_law_X0_clear
set_option maxRecDepth 20000 in
theorem ggL_law_X1_clear : GoodIn wsL_law wsX1_clear := goodIn_r _ [395, 387, 473, 474, 475, 476, 477, 478, 479, 480, 481, 482, 483, 484, 485, 486, 487, 488] (by decide +kernel) (by decide +kernel)
set_option maxRecDepth 20000 in
theorem gL_law_X1_clear : GoodIn wsL_law (wsV RL 100 RX1 yX1_clear wsX1_clear) := goodIn_app (goodIn_of _ (by decide +kernel)) ggL_law_X1_clear
set_option maxRecDepth 20000 in
theorem ggL_law_X0_stray : GoodIn wsL_law wsX0_stray := goodIn_r _ [399, 400, 401, 402, 2, 403, 24, 404, 405, 406, 407, 25, 26, 234, 235, 197, 236, 81, 82, 83, 408, 409, 410, 195, 196, 198, 458, 459, 460, 461, 462, 463, 464, 465, 466, 467, 468, 469, 470, 471, 472] (by decide +kernel) (by decide +kernel)
set_option maxRecDepth 20000 in
theorem gL_law_X0_stray : GoodIn wsL_law (wsV RL 101 RX0 yX0_stray wsX0_stray) := goodIn_app (goodIn_of _ (by decide +kernel)) ggL_law_X0_stray
set_option maxRecDepth 20000 in
theorem ggL_law_X1_stray : GoodIn wsL_law wsX1_stray := goodIn_r _ [414, 387, 59, 60, 5, 61, 415, 416, 417, 418, 46, 47, 419, 420, 421, 223, 224, 225, 473, 474, 475, 476, 477, 478, 479, 480, 481, 482, 483, 484, 485, 486, 487, 488] (by decide +kernel) (by decide +kernel)
set_option maxRecDepth 20000 in
theorem gL_law_X1_stray : GoodIn wsL_law (wsV RL 104 RX1 yX1_stray wsX1_stray) := goodIn_app (goodIn_of _ (by decide +kernel)) ggL_law_X1_stray
set_option maxRecDepth 20000 in
theorem ggL_law_X0_straight : GoodIn wsL_law wsX0_straight := goodIn_r _ [425, 426, 427, 428, 2, 429, 404, 405, 406, 407, 24, 25, 26, 234, 235, 197, 236, 81, 82, 83, 408, 409, 410, 195, 196, 198, 400, 401, 402, 403, 430, 431, 432, 433, 458, 459, 460, 461, 462, 463, 464, 465, 466, 467, 468, 469, 470, 471, 472] (by decide +kernel) (by decide +kernel)
set_option maxRecDepth 20000 in
theorem gL_law_X0_straight : GoodIn wsL_law (wsV RL 105 RX0 yX0_straight wsX0_straight) := goodIn_app (goodIn_of _ (by decide +kernel)) ggL_law_X0_straight
set_option maxRecDepth 20000 in
theorem ggL_law_X1_straight : GoodIn wsL_law wsX1_straight := goodIn_r _ [437, 387, 59, 60, 5, 61, 438, 439, 440, 441, 46, 47, 419, 420, 421, 223, 224, 225, 415, 416, 417, 418, 473, 474, 475, 476, 477, 478, 479, 480, 481, 482, 483, 484, 485, 486, 487, 488] (by decide +kernel) (by decide +kernel)
set_option maxRecDepth 20000 in
theorem gL_law_X1_straight : GoodIn wsL_law (wsV RL 108 RX1 yX1_straight wsX1_straight) := goodIn_app (goodIn_of _ (by decide +kernel)) ggL_law_X1_straight
set_option maxRecDepth 20000 in
theorem ggL_law_X0_count : GoodIn wsL_law wsX0_count := goodIn_r _ [445, 12, 19, 24, 16, 202, 203, 204, 205, 206, 207, 208, 458, 459, 460, 461, 462, 463, 464, 465, 466, 467, 468, 469, 470, 471, 472] (by decide +kernel) (by decide +kernel)
set_option maxRecDepth 20000 in
theorem gL_law_X0_count : GoodIn wsL_law (wsV RL 109 RX0 yX0_count wsX0_count) := goodIn_app (goodIn_of _ (by decide +kernel)) ggL_law_X0_count
set_option maxRecDepth 20000 in
theorem ggL_law_X1_count : GoodIn wsL_law wsX1_count := goodIn_r _ [449, 40, 50, 387, 42, 473, 474, 475, 476, 477, 478, 479, 480, 481, 482, 483, 484, 485, 486, 487, 488] (by decide +kernel) (by decide +kernel)
set_option maxRecDepth 20000 in
theorem gL_law_X1_count : GoodIn wsL_law (wsV RL 112 RX1 yX1_count wsX1_count) := goodIn_app (goodIn_of _ (by decide +kernel)) ggL_law_X1_count
set_option maxRecDepth 20000 in
theorem ggL_law_X0_trace : GoodIn wsL_law wsX0_trace := goodIn_r _ [453, 27, 458, 459, 460, 461, 462, 463, 464, 465, 466, 467, 468, 469, 470, 471, 472] (by decide +kernel) (by decide +kernel)
set_option maxRecDepth 20000 in
theorem gL_law_X0_trace : GoodIn wsL_law (wsV RL 113 RX0 yX0_trace wsX0_trace) := goodIn_app (goodIn_of _ (by decide +kernel)) ggL_law_X0_trace
set_option maxRecDepth 20000 in
theorem ggL_law_X1_trace : GoodIn wsL_law wsX1_trace := goodIn_r _ [457, 147, 473, 474, 475, 476, 477, 478, 479, 480, 481, 482, 483, 484, 485, 486, 487, 488] (by decide +kernel) (by decide +kernel)
set_option maxRecDepth 20000 in
theorem gL_law_X1_trace : GoodIn wsL_law (wsV RL 117 RX1 yX1_trace wsX1_trace) := goodIn_app (goodIn_of _ (by decide +kernel)) ggL_law_X1_trace
end
section
theorem dL_law_0 : decode cL_law 0 = .ok (.new 7, 3) := by decide +kernel
theorem dL_law_3 : decode cL_law 3 = .ok (.dup, 1) := by decide +kernel
theorem dL_law_4 : decode cL_law 4 = .ok (.invokespecial 9, 3) := by decide +kernel
theorem dL_law_7 : decode cL_law 7 = .ok (.astore_n 1, 1) := by decide +kernel
theorem dL_law_8 : decode cL_law 8 = .ok (.new 10, 3) := by decide +kernel
theorem dL_law_11 : decode cL_law 11 = .ok (.dup, 1) := by decide +kernel
theorem dL_law_12 : decode cL_law 12 = .ok (.invokespecial 12, 3) := by decide +kernel
theorem dL_law_15 : decode cL_law 15 = .ok (.astore_n 2, 1) := by decide +kernel
theorem dL_law_16 : decode cL_law 16 = .ok (.iconst 0, 1) := by decide +kernel
theorem dL_law_17 : decode cL_law 17 = .ok (.istore_n 3, 1) := by decide +kernel
theorem dL_law_18 : decode cL_law 18 = .ok (.iload_n 3, 1) := by decide +kernel
theorem dL_law_19 : decode cL_law 19 = .ok (.aload_n 0, 1) := by decide +kernel
theorem dL_law_20 : decode cL_law 20 = .ok (.arraylength, 1) := by decide +kernel
theorem dL_law_21 : decode cL_law 21 = .ok (.iconst 4, 1) := by decide +kernel
theorem dL_law_22 : decode cL_law 22 = .ok (.isub, 1) := by decide +kernel
theorem dL_law_23 : decode cL_law 23 = .ok (.if_icmp .gt 667, 3) := by decide +kernel
theorem dL_law_26 : decode cL_law 26 = .ok (.aload_n 0, 1) := by decide +kernel
theorem dL_law_27 : decode cL_law 27 = .ok (.iload_n 3, 1) := by decide +kernel
theorem dL_law_28 : decode cL_law 28 = .ok (.iaload, 1) := by decide +kernel
theorem dL_law_29 : decode cL_law 29 = .ok (.bipush 31, 2) := by decide +kernel
theorem dL_law_31 : decode cL_law 31 = .ok (.iand, 1) := by decide +kernel
theorem dL_law_32 : decode cL_law 32 = .ok (.tableswitch 652 0 24 #[116, 139, 172, 195, 238, 251, 284, 307, 340, 373, 396, 419, 432, 445, 458, 471, 484, 497, 510, 523, 556, 569, 592, 615, 638], 116) := by decide +kernel
theorem dL_law_148 : decode cL_law 148 = .ok (.aload_n 1, 1) := by decide +kernel
theorem dL_law_149 : decode cL_law 149 = .ok (.aload_n 0, 1) := by decide +kernel
theorem dL_law_150 : decode cL_law 150 = .ok (.iload_n 3, 1) := by decide +kernel
theorem dL_law_151 : decode cL_law 151 = .ok (.iconst 1, 1) := by decide +kernel
theorem dL_law_152 : decode cL_law 152 = .ok (.iadd, 1) := by decide +kernel
theorem dL_law_153 : decode cL_law 153 = .ok (.iaload, 1) := by decide +kernel
theorem dL_law_154 : decode cL_law 154 = .ok (.invokevirtual 13, 3) := by decide +kernel
theorem dL_law_157 : decode cL_law 157 = .ok (.aload_n 2, 1) := by decide +kernel
theorem dL_law_158 : decode cL_law 158 = .ok (.aload_n 0, 1) := by decide +kernel
theorem dL_law_159 : decode cL_law 159 = .ok (.iload_n 3, 1) := by decide +kernel
theorem dL_law_160 : decode cL_law 160 = .ok (.iconst 1, 1) := by decide +kernel
theorem dL_law_161 : decode cL_law 161 = .ok (.iadd, 1) := by decide +kernel
theorem dL_law_162 : decode cL_law 162 = .ok (.iaload, 1) := by decide +kernel
theorem dL_law_163 : decode cL_law 163 = .ok (.invokevirtual 17, 3) := by decide +kernel
theorem dL_law_166 : decode cL_law 166 = .ok (.if_icmp .eq 518, 3) := by decide +kernel
theorem dL_law_169 : decode cL_law 169 = .ok (.iconst 0, 1) := by decide +kernel
theorem dL_law_170 : decode cL_law 170 = .ok (.ireturn, 1) := by decide +kernel
theorem dL_law_171 : decode cL_law 171 = .ok (.aload_n 1, 1) := by decide +kernel
theorem dL_law_172 : decode cL_law 172 = .ok (.aload_n 0, 1) := by decide +kernel
theorem dL_law_173 : decode cL_law 173 = .ok (.iload_n 3, 1) := by decide +kernel
theorem dL_law_174 : decode cL_law 174 = .ok (.iconst 1, 1) := by decide +kernel
theorem dL_law_175 : decode cL_law 175 = .ok (.iadd, 1) := by decide +kernel
theorem dL_law_176 : decode cL_law 176 = .ok (.iaload, 1) := by decide +kernel
theorem dL_law_177 : decode cL_law 177 = .ok (.aload_n 0, 1) := by decide +kernel
theorem dL_law_178 : decode cL_law 178 = .ok (.iload_n 3, 1) := by decide +kernel
theorem dL_law_179 : decode cL_law 179 = .ok (.iconst 2, 1) := by decide +kernel
theorem dL_law_180 : decode cL_law 180 = .ok (.iadd, 1) := by decide +kernel
theorem dL_law_181 : decode cL_law 181 = .ok (.iaload, 1) := by decide +kernel
theorem dL_law_182 : decode cL_law 182 = .ok (.invokevirtual 18, 3) := by decide +kernel
theorem dL_law_185 : decode cL_law 185 = .ok (.aload_n 2, 1) := by decide +kernel
theorem dL_law_186 : decode cL_law 186 = .ok (.aload_n 0, 1) := by decide +kernel
theorem dL_law_187 : decode cL_law 187 = .ok (.iload_n 3, 1) := by decide +kernel
theorem dL_law_188 : decode cL_law 188 = .ok (.iconst 1, 1) := by decide +kernel
theorem dL_law_189 : decode cL_law 189 = .ok (.iadd, 1) := by decide +kernel
theorem dL_law_190 : decode cL_law 190 = .ok (.iaload, 1) := by decide +kernel
theorem dL_law_191 : decode cL_law 191 = .ok (.aload_n 0, 1) := by decide +kernel
theorem dL_law_192 : decode cL_law 192 = .ok (.iload_n 3, 1) := by decide +kernel
theorem dL_law_193 : decode cL_law 193 = .ok (.iconst 2, 1) := by decide +kernel
theorem dL_law_194 : decode cL_law 194 = .ok (.iadd, 1) := by decide +kernel
theorem dL_law_195 : decode cL_law 195 = .ok (.iaload, 1) := by decide +kernel
theorem dL_law_196 : decode cL_law 196 = .ok (.invokevirtual 22, 3) := by decide +kernel
theorem dL_law_199 : decode cL_law 199 = .ok (.if_icmp .eq 485, 3) := by decide +kernel
theorem dL_law_202 : decode cL_law 202 = .ok (.iconst 0, 1) := by decide +kernel
theorem dL_law_203 : decode cL_law 203 = .ok (.ireturn, 1) := by decide +kernel
theorem dL_law_204 : decode cL_law 204 = .ok (.aload_n 1, 1) := by decide +kernel
theorem dL_law_205 : decode cL_law 205 = .ok (.aload_n 0, 1) := by decide +kernel
theorem dL_law_206 : decode cL_law 206 = .ok (.iload_n 3, 1) := by decide +kernel
theorem dL_law_207 : decode cL_law 207 = .ok (.iconst 1, 1) := by decide +kernel
theorem dL_law_208 : decode cL_law 208 = .ok (.iadd, 1) := by decide +kernel
theorem dL_law_209 : decode cL_law 209 = .ok (.iaload, 1) := by decide +kernel
theorem dL_law_210 : decode cL_law 210 = .ok (.invokevirtual 23, 3) := by decide +kernel
theorem dL_law_213 : decode cL_law 213 = .ok (.aload_n 2, 1) := by decide +kernel
theorem dL_law_214 : decode cL_law 214 = .ok (.aload_n 0, 1) := by decide +kernel
theorem dL_law_215 : decode cL_law 215 = .ok (.iload_n 3, 1) := by decide +kernel
theorem dL_law_216 : decode cL_law 216 = .ok (.iconst 1, 1) := by decide +kernel
theorem dL_law_217 : decode cL_law 217 = .ok (.iadd, 1) := by decide +kernel
theorem dL_law_218 : decode cL_law 218 = .ok (.iaload, 1) := by decide +kernel
theorem dL_law_219 : decode cL_law 219 = .ok (.invokevirtual 26, 3) := by decide +kernel
theorem dL_law_222 : decode cL_law 222 = .ok (.if_icmp .eq 462, 3) := by decide +kernel
theorem dL_law_225 : decode cL_law 225 = .ok (.iconst 0, 1) := by decide +kernel
theorem dL_law_226 : decode cL_law 226 = .ok (.ireturn, 1) := by decide +kernel
theorem dL_law_227 : decode cL_law 227 = .ok (.aload_n 1, 1) := by decide +kernel
theorem dL_law_228 : decode cL_law 228 = .ok (.aload_n 0, 1) := by decide +kernel
theorem dL_law_229 : decode cL_law 229 = .ok (.iload_n 3, 1) := by decide +kernel
theorem dL_law_230 : decode cL_law 230 = .ok (.iconst 1, 1) := by decide +kernel
theorem dL_law_231 : decode cL_law 231 = .ok (.iadd, 1) := by decide +kernel
theorem dL_law_232 : decode cL_law 232 = .ok (.iaload, 1) := by decide +kernel
theorem dL_law_233 : decode cL_law 233 = .ok (.aload_n 0, 1) := by decide +kernel
theorem dL_law_234 : decode cL_law 234 = .ok (.iload_n 3, 1) := by decide +kernel
theorem dL_law_235 : decode cL_law 235 = .ok (.iconst 2, 1) := by decide +kernel
theorem dL_law_236 : decode cL_law 236 = .ok (.iadd, 1) := by decide +kernel
theorem dL_law_237 : decode cL_law 237 = .ok (.iaload, 1) := by decide +kernel
theorem dL_law_238 : decode cL_law 238 = .ok (.aload_n 0, 1) := by decide +kernel
theorem dL_law_239 : decode cL_law 239 = .ok (.iload_n 3, 1) := by decide +kernel
theorem dL_law_240 : decode cL_law 240 = .ok (.iconst 3, 1) := by decide +kernel
theorem dL_law_241 : decode cL_law 241 = .ok (.iadd, 1) := by decide +kernel
theorem dL_law_242 : decode cL_law 242 = .ok (.iaload, 1) := by decide +kernel
theorem dL_law_243 : decode cL_law 243 = .ok (.invokevirtual 27, 3) := by decide +kernel
theorem dL_law_246 : decode cL_law 246 = .ok (.aload_n 2, 1) := by decide +kernel
theorem dL_law_247 : decode cL_law 247 = .ok (.aload_n 0, 1) := by decide +kernel
theorem dL_law_248 : decode cL_law 248 = .ok (.iload_n 3, 1) := by decide +kernel
theorem dL_law_249 : decode cL_law 249 = .ok (.iconst 1, 1) := by decide +kernel
theorem dL_law_250 : decode cL_law 250 = .ok (.iadd, 1) := by decide +kernel
theorem dL_law_251 : decode cL_law 251 = .ok (.iaload, 1) := by decide +kernel
theorem dL_law_252 : decode cL_law 252 = .ok (.aload_n 0, 1) := by decide +kernel
theorem dL_law_253 : decode cL_law 253 = .ok (.iload_n 3, 1) := by decide +kernel
theorem dL_law_254 : decode cL_law 254 = .ok (.iconst 2, 1) := by decide +kernel
theorem dL_law_255 : decode cL_law 255 = .ok (.iadd, 1) := by decide +kernel
theorem dL_law_256 : decode cL_law 256 = .ok (.iaload, 1) := by decide +kernel
theorem dL_law_257 : decode cL_law 257 = .ok (.aload_n 0, 1) := by decide +kernel
theorem dL_law_258 : decode cL_law 258 = .ok (.iload_n 3, 1) := by decide +kernel
theorem dL_law_259 : decode cL_law 259 = .ok (.iconst 3, 1) := by decide +kernel
theorem dL_law_260 : decode cL_law 260 = .ok (.iadd, 1) := by decide +kernel
theorem dL_law_261 : decode cL_law 261 = .ok (.iaload, 1) := by decide +kernel
theorem dL_law_262 : decode cL_law 262 = .ok (.invokevirtual 31, 3) := by decide +kernel
theorem dL_law_265 : decode cL_law 265 = .ok (.if_icmp .eq 419, 3) := by decide +kernel
theorem dL_law_268 : decode cL_law 268 = .ok (.iconst 0, 1) := by decide +kernel
theorem dL_law_269 : decode cL_law 269 = .ok (.ireturn, 1) := by decide +kernel
theorem dL_law_270 : decode cL_law 270 = .ok (.aload_n 1, 1) := by decide +kernel
theorem dL_law_271 : decode cL_law 271 = .ok (.invokevirtual 32, 3) := by decide +kernel
theorem dL_law_274 : decode cL_law 274 = .ok (.aload_n 2, 1) := by decide +kernel
theorem dL_law_275 : decode cL_law 275 = .ok (.invokevirtual 36, 3) := by decide +kernel
theorem dL_law_278 : decode cL_law 278 = .ok (.if_icmp .eq 406, 3) := by decide +kernel
theorem dL_law_281 : decode cL_law 281 = .ok (.iconst 0, 1) := by decide +kernel
theorem dL_law_282 : decode cL_law 282 = .ok (.ireturn, 1) := by decide +kernel
theorem dL_law_283 : decode cL_law 283 = .ok (.aload_n 1, 1) := by decide +kernel
theorem dL_law_284 : decode cL_law 284 = .ok (.aload_n 0, 1) := by decide +kernel
theorem dL_law_285 : decode cL_law 285 = .ok (.iload_n 3, 1) := by decide +kernel
theorem dL_law_286 : decode cL_law 286 = .ok (.iconst 1, 1) := by decide +kernel
theorem dL_law_287 : decode cL_law 287 = .ok (.iadd, 1) := by decide +kernel
theorem dL_law_288 : decode cL_law 288 = .ok (.iaload, 1) := by decide +kernel
theorem dL_law_289 : decode cL_law 289 = .ok (.aload_n 0, 1) := by decide +kernel
theorem dL_law_290 : decode cL_law 290 = .ok (.iload_n 3, 1) := by decide +kernel
theorem dL_law_291 : decode cL_law 291 = .ok (.iconst 2, 1) := by decide +kernel
theorem dL_law_292 : decode cL_law 292 = .ok (.iadd, 1) := by decide +kernel
theorem dL_law_293 : decode cL_law 293 = .ok (.iaload, 1) := by decide +kernel
theorem dL_law_294 : decode cL_law 294 = .ok (.invokevirtual 37, 3) := by decide +kernel
theorem dL_law_297 : decode cL_law 297 = .ok (.aload_n 2, 1) := by decide +kernel
theorem dL_law_298 : decode cL_law 298 = .ok (.aload_n 0, 1) := by decide +kernel
theorem dL_law_299 : decode cL_law 299 = .ok (.iload_n 3, 1) := by decide +kernel
theorem dL_law_300 : decode cL_law 300 = .ok (.iconst 1, 1) := by decide +kernel
theorem dL_law_301 : decode cL_law 301 = .ok (.iadd, 1) := by decide +kernel
theorem dL_law_302 : decode cL_law 302 = .ok (.iaload, 1) := by decide +kernel
theorem dL_law_303 : decode cL_law 303 = .ok (.aload_n 0, 1) := by decide +kernel
theorem dL_law_304 : decode cL_law 304 = .ok (.iload_n 3, 1) := by decide +kernel
theorem dL_law_305 : decode cL_law 305 = .ok (.iconst 2, 1) := by decide +kernel
theorem dL_law_306 : decode cL_law 306 = .ok (.iadd, 1) := by decide +kernel
theorem dL_law_307 : decode cL_law 307 = .ok (.iaload, 1) := by decide +kernel
theorem dL_law_308 : decode cL_law 308 = .ok (.invokevirtual 40, 3) := by decide +kernel
theorem dL_law_311 : decode cL_law 311 = .ok (.if_icmp .eq 373, 3) := by decide +kernel
theorem dL_law_314 : decode cL_law 314 = .ok (.iconst 0, 1) := by decide +kernel
theorem dL_law_315 : decode cL_law 315 = .ok (.ireturn, 1) := by decide +kernel
theorem dL_law_316 : decode cL_law 316 = .ok (.aload_n 1, 1) := by decide +kernel
theorem dL_law_317 : decode cL_law 317 = .ok (.aload_n 0, 1) := by decide +kernel
theorem dL_law_318 : decode cL_law 318 = .ok (.iload_n 3, 1) := by decide +kernel
theorem dL_law_319 : decode cL_law 319 = .ok (.iconst 1, 1) := by decide +kernel
theorem dL_law_320 : decode cL_law 320 = .ok (.iadd, 1) := by decide +kernel
theorem dL_law_321 : decode cL_law 321 = .ok (.iaload, 1) := by decide +kernel
theorem dL_law_322 : decode cL_law 322 = .ok (.invokevirtual 41, 3) := by decide +kernel
theorem dL_law_325 : decode cL_law 325 = .ok (.aload_n 2, 1) := by decide +kernel
theorem dL_law_326 : decode cL_law 326 = .ok (.aload_n 0, 1) := by decide +kernel
theorem dL_law_327 : decode cL_law 327 = .ok (.iload_n 3, 1) := by decide +kernel
theorem dL_law_328 : decode cL_law 328 = .ok (.iconst 1, 1) := by decide +kernel
theorem dL_law_329 : decode cL_law 329 = .ok (.iadd, 1) := by decide +kernel
theorem dL_law_330 : decode cL_law 330 = .ok (.iaload, 1) := by decide +kernel
theorem dL_law_331 : decode cL_law 331 = .ok (.invokevirtual 44, 3) := by decide +kernel
theorem dL_law_334 : decode cL_law 334 = .ok (.if_icmp .eq 350, 3) := by decide +kernel
theorem dL_law_337 : decode cL_law 337 = .ok (.iconst 0, 1) := by decide +kernel
theorem dL_law_338 : decode cL_law 338 = .ok (.ireturn, 1) := by decide +kernel
theorem dL_law_339 : decode cL_law 339 = .ok (.aload_n 1, 1) := by decide +kernel
theorem dL_law_340 : decode cL_law 340 = .ok (.aload_n 0, 1) := by decide +kernel
theorem dL_law_341 : decode cL_law 341 = .ok (.iload_n 3, 1) := by decide +kernel
theorem dL_law_342 : decode cL_law 342 = .ok (.iconst 1, 1) := by decide +kernel
theorem dL_law_343 : decode cL_law 343 = .ok (.iadd, 1) := by decide +kernel
theorem dL_law_344 : decode cL_law 344 = .ok (.iaload, 1) := by decide +kernel
theorem dL_law_345 : decode cL_law 345 = .ok (.aload_n 0, 1) := by decide +kernel
theorem dL_law_346 : decode cL_law 346 = .ok (.iload_n 3, 1) := by decide +kernel
theorem dL_law_347 : decode cL_law 347 = .ok (.iconst 2, 1) := by decide +kernel
theorem dL_law_348 : decode cL_law 348 = .ok (.iadd, 1) := by decide +kernel
theorem dL_law_349 : decode cL_law 349 = .ok (.iaload, 1) := by decide +kernel
theorem dL_law_350 : decode cL_law 350 = .ok (.invokevirtual 45, 3) := by decide +kernel
theorem dL_law_353 : decode cL_law 353 = .ok (.aload_n 2, 1) := by decide +kernel
theorem dL_law_354 : decode cL_law 354 = .ok (.aload_n 0, 1) := by decide +kernel
theorem dL_law_355 : decode cL_law 355 = .ok (.iload_n 3, 1) := by decide +kernel
theorem dL_law_356 : decode cL_law 356 = .ok (.iconst 1, 1) := by decide +kernel
theorem dL_law_357 : decode cL_law 357 = .ok (.iadd, 1) := by decide +kernel
theorem dL_law_358 : decode cL_law 358 = .ok (.iaload, 1) := by decide +kernel
theorem dL_law_359 : decode cL_law 359 = .ok (.aload_n 0, 1) := by decide +kernel
theorem dL_law_360 : decode cL_law 360 = .ok (.iload_n 3, 1) := by decide +kernel
theorem dL_law_361 : decode cL_law 361 = .ok (.iconst 2, 1) := by decide +kernel
theorem dL_law_362 : decode cL_law 362 = .ok (.iadd, 1) := by decide +kernel
theorem dL_law_363 : decode cL_law 363 = .ok (.iaload, 1) := by decide +kernel
theorem dL_law_364 : decode cL_law 364 = .ok (.invokevirtual 48, 3) := by decide +kernel
theorem dL_law_367 : decode cL_law 367 = .ok (.if_icmp .eq 317, 3) := by decide +kernel
theorem dL_law_370 : decode cL_law 370 = .ok (.iconst 0, 1) := by decide +kernel
theorem dL_law_371 : decode cL_law 371 = .ok (.ireturn, 1) := by decide +kernel
theorem dL_law_372 : decode cL_law 372 = .ok (.aload_n 1, 1) := by decide +kernel
theorem dL_law_373 : decode cL_law 373 = .ok (.aload_n 0, 1) := by decide +kernel
theorem dL_law_374 : decode cL_law 374 = .ok (.iload_n 3, 1) := by decide +kernel
theorem dL_law_375 : decode cL_law 375 = .ok (.iconst 1, 1) := by decide +kernel
theorem dL_law_376 : decode cL_law 376 = .ok (.iadd, 1) := by decide +kernel
theorem dL_law_377 : decode cL_law 377 = .ok (.iaload, 1) := by decide +kernel
theorem dL_law_378 : decode cL_law 378 = .ok (.aload_n 0, 1) := by decide +kernel
theorem dL_law_379 : decode cL_law 379 = .ok (.iload_n 3, 1) := by decide +kernel
theorem dL_law_380 : decode cL_law 380 = .ok (.iconst 2, 1) := by decide +kernel
theorem dL_law_381 : decode cL_law 381 = .ok (.iadd, 1) := by decide +kernel
theorem dL_law_382 : decode cL_law 382 = .ok (.iaload, 1) := by decide +kernel
theorem dL_law_383 : decode cL_law 383 = .ok (.invokevirtual 49, 3) := by decide +kernel
theorem dL_law_386 : decode cL_law 386 = .ok (.aload_n 2, 1) := by decide +kernel
theorem dL_law_387 : decode cL_law 387 = .ok (.aload_n 0, 1) := by decide +kernel
theorem dL_law_388 : decode cL_law 388 = .ok (.iload_n 3, 1) := by decide +kernel
theorem dL_law_389 : decode cL_law 389 = .ok (.iconst 1, 1) := by decide +kernel
theorem dL_law_390 : decode cL_law 390 = .ok (.iadd, 1) := by decide +kernel
theorem dL_law_391 : decode cL_law 391 = .ok (.iaload, 1) := by decide +kernel
theorem dL_law_392 : decode cL_law 392 = .ok (.aload_n 0, 1) := by decide +kernel
theorem dL_law_393 : decode cL_law 393 = .ok (.iload_n 3, 1) := by decide +kernel
theorem dL_law_394 : decode cL_law 394 = .ok (.iconst 2, 1) := by decide +kernel
theorem dL_law_395 : decode cL_law 395 = .ok (.iadd, 1) := by decide +kernel
theorem dL_law_396 : decode cL_law 396 = .ok (.iaload, 1) := by decide +kernel
theorem dL_law_397 : decode cL_law 397 = .ok (.invokevirtual 52, 3) := by decide +kernel
theorem dL_law_400 : decode cL_law 400 = .ok (.if_icmp .eq 284, 3) := by decide +kernel
theorem dL_law_403 : decode cL_law 403 = .ok (.iconst 0, 1) := by decide +kernel
theorem dL_law_404 : decode cL_law 404 = .ok (.ireturn, 1) := by decide +kernel
theorem dL_law_405 : decode cL_law 405 = .ok (.aload_n 1, 1) := by decide +kernel
theorem dL_law_406 : decode cL_law 406 = .ok (.aload_n 0, 1) := by decide +kernel
theorem dL_law_407 : decode cL_law 407 = .ok (.iload_n 3, 1) := by decide +kernel
theorem dL_law_408 : decode cL_law 408 = .ok (.iconst 1, 1) := by decide +kernel
theorem dL_law_409 : decode cL_law 409 = .ok (.iadd, 1) := by decide +kernel
theorem dL_law_410 : decode cL_law 410 = .ok (.iaload, 1) := by decide +kernel
theorem dL_law_411 : decode cL_law 411 = .ok (.invokevirtual 53, 3) := by decide +kernel
theorem dL_law_414 : decode cL_law 414 = .ok (.aload_n 2, 1) := by decide +kernel
theorem dL_law_415 : decode cL_law 415 = .ok (.aload_n 0, 1) := by decide +kernel
theorem dL_law_416 : decode cL_law 416 = .ok (.iload_n 3, 1) := by decide +kernel
theorem dL_law_417 : decode cL_law 417 = .ok (.iconst 1, 1) := by decide +kernel
theorem dL_law_418 : decode cL_law 418 = .ok (.iadd, 1) := by decide +kernel
theorem dL_law_419 : decode cL_law 419 = .ok (.iaload, 1) := by decide +kernel
theorem dL_law_420 : decode cL_law 420 = .ok (.invokevirtual 56, 3) := by decide +kernel
theorem dL_law_423 : decode cL_law 423 = .ok (.if_icmp .eq 261, 3) := by decide +kernel
theorem dL_law_426 : decode cL_law 426 = .ok (.iconst 0, 1) := by decide +kernel
theorem dL_law_427 : decode cL_law 427 = .ok (.ireturn, 1) := by decide +kernel
theorem dL_law_428 : decode cL_law 428 = .ok (.aload_n 1, 1) := by decide +kernel
theorem dL_law_429 : decode cL_law 429 = .ok (.aload_n 0, 1) := by decide +kernel
theorem dL_law_430 : decode cL_law 430 = .ok (.iload_n 3, 1) := by decide +kernel
theorem dL_law_431 : decode cL_law 431 = .ok (.iconst 1, 1) := by decide +kernel
theorem dL_law_432 : decode cL_law 432 = .ok (.iadd, 1) := by decide +kernel
theorem dL_law_433 : decode cL_law 433 = .ok (.iaload, 1) := by decide +kernel
theorem dL_law_434 : decode cL_law 434 = .ok (.invokevirtual 57, 3) := by decide +kernel
theorem dL_law_437 : decode cL_law 437 = .ok (.aload_n 2, 1) := by decide +kernel
theorem dL_law_438 : decode cL_law 438 = .ok (.aload_n 0, 1) := by decide +kernel
theorem dL_law_439 : decode cL_law 439 = .ok (.iload_n 3, 1) := by decide +kernel
theorem dL_law_440 : decode cL_law 440 = .ok (.iconst 1, 1) := by decide +kernel
theorem dL_law_441 : decode cL_law 441 = .ok (.iadd, 1) := by decide +kernel
theorem dL_law_442 : decode cL_law 442 = .ok (.iaload, 1) := by decide +kernel
theorem dL_law_443 : decode cL_law 443 = .ok (.invokevirtual 60, 3) := by decide +kernel
theorem dL_law_446 : decode cL_law 446 = .ok (.if_icmp .eq 238, 3) := by decide +kernel
theorem dL_law_449 : decode cL_law 449 = .ok (.iconst 0, 1) := by decide +kernel
theorem dL_law_450 : decode cL_law 450 = .ok (.ireturn, 1) := by decide +kernel
theorem dL_law_451 : decode cL_law 451 = .ok (.aload_n 1, 1) := by decide +kernel
theorem dL_law_452 : decode cL_law 452 = .ok (.invokevirtual 61, 3) := by decide +kernel
theorem dL_law_455 : decode cL_law 455 = .ok (.aload_n 2, 1) := by decide +kernel
theorem dL_law_456 : decode cL_law 456 = .ok (.invokevirtual 64, 3) := by decide +kernel
theorem dL_law_459 : decode cL_law 459 = .ok (.if_icmp .eq 225, 3) := by decide +kernel
theorem dL_law_462 : decode cL_law 462 = .ok (.iconst 0, 1) := by decide +kernel
theorem dL_law_463 : decode cL_law 463 = .ok (.ireturn, 1) := by decide +kernel
theorem dL_law_464 : decode cL_law 464 = .ok (.aload_n 1, 1) := by decide +kernel
theorem dL_law_465 : decode cL_law 465 = .ok (.invokevirtual 65, 3) := by decide +kernel
theorem dL_law_468 : decode cL_law 468 = .ok (.aload_n 2, 1) := by decide +kernel
theorem dL_law_469 : decode cL_law 469 = .ok (.invokevirtual 68, 3) := by decide +kernel
theorem dL_law_472 : decode cL_law 472 = .ok (.if_icmp .eq 212, 3) := by decide +kernel
theorem dL_law_475 : decode cL_law 475 = .ok (.iconst 0, 1) := by decide +kernel
theorem dL_law_476 : decode cL_law 476 = .ok (.ireturn, 1) := by decide +kernel
theorem dL_law_477 : decode cL_law 477 = .ok (.aload_n 1, 1) := by decide +kernel
theorem dL_law_478 : decode cL_law 478 = .ok (.invokevirtual 69, 3) := by decide +kernel
theorem dL_law_481 : decode cL_law 481 = .ok (.aload_n 2, 1) := by decide +kernel
theorem dL_law_482 : decode cL_law 482 = .ok (.invokevirtual 72, 3) := by decide +kernel
theorem dL_law_485 : decode cL_law 485 = .ok (.if_icmp .eq 199, 3) := by decide +kernel
theorem dL_law_488 : decode cL_law 488 = .ok (.iconst 0, 1) := by decide +kernel
theorem dL_law_489 : decode cL_law 489 = .ok (.ireturn, 1) := by decide +kernel
theorem dL_law_490 : decode cL_law 490 = .ok (.aload_n 1, 1) := by decide +kernel
theorem dL_law_491 : decode cL_law 491 = .ok (.invokevirtual 73, 3) := by decide +kernel
theorem dL_law_494 : decode cL_law 494 = .ok (.aload_n 2, 1) := by decide +kernel
theorem dL_law_495 : decode cL_law 495 = .ok (.invokevirtual 76, 3) := by decide +kernel
theorem dL_law_498 : decode cL_law 498 = .ok (.if_icmp .eq 186, 3) := by decide +kernel
theorem dL_law_501 : decode cL_law 501 = .ok (.iconst 0, 1) := by decide +kernel
theorem dL_law_502 : decode cL_law 502 = .ok (.ireturn, 1) := by decide +kernel
theorem dL_law_503 : decode cL_law 503 = .ok (.aload_n 1, 1) := by decide +kernel
theorem dL_law_504 : decode cL_law 504 = .ok (.invokevirtual 77, 3) := by decide +kernel
theorem dL_law_507 : decode cL_law 507 = .ok (.aload_n 2, 1) := by decide +kernel
theorem dL_law_508 : decode cL_law 508 = .ok (.invokevirtual 80, 3) := by decide +kernel
theorem dL_law_511 : decode cL_law 511 = .ok (.if_icmp .eq 173, 3) := by decide +kernel
theorem dL_law_514 : decode cL_law 514 = .ok (.iconst 0, 1) := by decide +kernel
theorem dL_law_515 : decode cL_law 515 = .ok (.ireturn, 1) := by decide +kernel
theorem dL_law_516 : decode cL_law 516 = .ok (.aload_n 1, 1) := by decide +kernel
theorem dL_law_517 : decode cL_law 517 = .ok (.invokevirtual 81, 3) := by decide +kernel
theorem dL_law_520 : decode cL_law 520 = .ok (.aload_n 2, 1) := by decide +kernel
theorem dL_law_521 : decode cL_law 521 = .ok (.invokevirtual 84, 3) := by decide +kernel
theorem dL_law_524 : decode cL_law 524 = .ok (.if_icmp .eq 160, 3) := by decide +kernel
theorem dL_law_527 : decode cL_law 527 = .ok (.iconst 0, 1) := by decide +kernel
theorem dL_law_528 : decode cL_law 528 = .ok (.ireturn, 1) := by decide +kernel
theorem dL_law_529 : decode cL_law 529 = .ok (.aload_n 1, 1) := by decide +kernel
theorem dL_law_530 : decode cL_law 530 = .ok (.invokevirtual 85, 3) := by decide +kernel
theorem dL_law_533 : decode cL_law 533 = .ok (.aload_n 2, 1) := by decide +kernel
theorem dL_law_534 : decode cL_law 534 = .ok (.invokevirtual 88, 3) := by decide +kernel
theorem dL_law_537 : decode cL_law 537 = .ok (.if_icmp .eq 147, 3) := by decide +kernel
theorem dL_law_540 : decode cL_law 540 = .ok (.iconst 0, 1) := by decide +kernel
theorem dL_law_541 : decode cL_law 541 = .ok (.ireturn, 1) := by decide +kernel
theorem dL_law_542 : decode cL_law 542 = .ok (.aload_n 1, 1) := by decide +kernel
theorem dL_law_543 : decode cL_law 543 = .ok (.invokevirtual 89, 3) := by decide +kernel
theorem dL_law_546 : decode cL_law 546 = .ok (.aload_n 2, 1) := by decide +kernel
theorem dL_law_547 : decode cL_law 547 = .ok (.invokevirtual 92, 3) := by decide +kernel
theorem dL_law_550 : decode cL_law 550 = .ok (.if_icmp .eq 134, 3) := by decide +kernel
theorem dL_law_553 : decode cL_law 553 = .ok (.iconst 0, 1) := by decide +kernel
theorem dL_law_554 : decode cL_law 554 = .ok (.ireturn, 1) := by decide +kernel
theorem dL_law_555 : decode cL_law 555 = .ok (.aload_n 1, 1) := by decide +kernel
theorem dL_law_556 : decode cL_law 556 = .ok (.aload_n 0, 1) := by decide +kernel
theorem dL_law_557 : decode cL_law 557 = .ok (.iload_n 3, 1) := by decide +kernel
theorem dL_law_558 : decode cL_law 558 = .ok (.iconst 1, 1) := by decide +kernel
theorem dL_law_559 : decode cL_law 559 = .ok (.iadd, 1) := by decide +kernel
theorem dL_law_560 : decode cL_law 560 = .ok (.iaload, 1) := by decide +kernel
theorem dL_law_561 : decode cL_law 561 = .ok (.aload_n 0, 1) := by decide +kernel
theorem dL_law_562 : decode cL_law 562 = .ok (.iload_n 3, 1) := by decide +kernel
theorem dL_law_563 : decode cL_law 563 = .ok (.iconst 2, 1) := by decide +kernel
theorem dL_law_564 : decode cL_law 564 = .ok (.iadd, 1) := by decide +kernel
theorem dL_law_565 : decode cL_law 565 = .ok (.iaload, 1) := by decide +kernel
theorem dL_law_566 : decode cL_law 566 = .ok (.invokevirtual 93, 3) := by decide +kernel
theorem dL_law_569 : decode cL_law 569 = .ok (.aload_n 2, 1) := by decide +kernel
theorem dL_law_570 : decode cL_law 570 = .ok (.aload_n 0, 1) := by decide +kernel
theorem dL_law_571 : decode cL_law 571 = .ok (.iload_n 3, 1) := by decide +kernel
theorem dL_law_572 : decode cL_law 572 = .ok (.iconst 1, 1) := by decide +kernel
theorem dL_law_573 : decode cL_law 573 = .ok (.iadd, 1) := by decide +kernel
theorem dL_law_574 : decode cL_law 574 = .ok (.iaload, 1) := by decide +kernel
theorem dL_law_575 : decode cL_law 575 = .ok (.aload_n 0, 1) := by decide +kernel
theorem dL_law_576 : decode cL_law 576 = .ok (.iload_n 3, 1) := by decide +kernel
theorem dL_law_577 : decode cL_law 577 = .ok (.iconst 2, 1) := by decide +kernel
theorem dL_law_578 : decode cL_law 578 = .ok (.iadd, 1) := by decide +kernel
theorem dL_law_579 : decode cL_law 579 = .ok (.iaload, 1) := by decide +kernel
theorem dL_law_580 : decode cL_law 580 = .ok (.invokevirtual 96, 3) := by decide +kernel
theorem dL_law_583 : decode cL_law 583 = .ok (.if_icmp .eq 101, 3) := by decide +kernel
theorem dL_law_586 : decode cL_law 586 = .ok (.iconst 0, 1) := by decide +kernel
theorem dL_law_587 : decode cL_law 587 = .ok (.ireturn, 1) := by decide +kernel
theorem dL_law_588 : decode cL_law 588 = .ok (.aload_n 1, 1) := by decide +kernel
theorem dL_law_589 : decode cL_law 589 = .ok (.invokevirtual 97, 3) := by decide +kernel
theorem dL_law_592 : decode cL_law 592 = .ok (.aload_n 2, 1) := by decide +kernel
theorem dL_law_593 : decode cL_law 593 = .ok (.invokevirtual 100, 3) := by decide +kernel
theorem dL_law_596 : decode cL_law 596 = .ok (.if_icmp .eq 88, 3) := by decide +kernel
theorem dL_law_599 : decode cL_law 599 = .ok (.iconst 0, 1) := by decide +kernel
theorem dL_law_600 : decode cL_law 600 = .ok (.ireturn, 1) := by decide +kernel
theorem dL_law_601 : decode cL_law 601 = .ok (.aload_n 1, 1) := by decide +kernel
theorem dL_law_602 : decode cL_law 602 = .ok (.aload_n 0, 1) := by decide +kernel
theorem dL_law_603 : decode cL_law 603 = .ok (.iload_n 3, 1) := by decide +kernel
theorem dL_law_604 : decode cL_law 604 = .ok (.iconst 1, 1) := by decide +kernel
theorem dL_law_605 : decode cL_law 605 = .ok (.iadd, 1) := by decide +kernel
theorem dL_law_606 : decode cL_law 606 = .ok (.iaload, 1) := by decide +kernel
theorem dL_law_607 : decode cL_law 607 = .ok (.invokevirtual 101, 3) := by decide +kernel
theorem dL_law_610 : decode cL_law 610 = .ok (.aload_n 2, 1) := by decide +kernel
theorem dL_law_611 : decode cL_law 611 = .ok (.aload_n 0, 1) := by decide +kernel
theorem dL_law_612 : decode cL_law 612 = .ok (.iload_n 3, 1) := by decide +kernel
theorem dL_law_613 : decode cL_law 613 = .ok (.iconst 1, 1) := by decide +kernel
theorem dL_law_614 : decode cL_law 614 = .ok (.iadd, 1) := by decide +kernel
theorem dL_law_615 : decode cL_law 615 = .ok (.iaload, 1) := by decide +kernel
theorem dL_law_616 : decode cL_law 616 = .ok (.invokevirtual 104, 3) := by decide +kernel
theorem dL_law_619 : decode cL_law 619 = .ok (.if_icmp .eq 65, 3) := by decide +kernel
theorem dL_law_622 : decode cL_law 622 = .ok (.iconst 0, 1) := by decide +kernel
theorem dL_law_623 : decode cL_law 623 = .ok (.ireturn, 1) := by decide +kernel
theorem dL_law_624 : decode cL_law 624 = .ok (.aload_n 1, 1) := by decide +kernel
theorem dL_law_625 : decode cL_law 625 = .ok (.aload_n 0, 1) := by decide +kernel
theorem dL_law_626 : decode cL_law 626 = .ok (.iload_n 3, 1) := by decide +kernel
theorem dL_law_627 : decode cL_law 627 = .ok (.iconst 1, 1) := by decide +kernel
theorem dL_law_628 : decode cL_law 628 = .ok (.iadd, 1) := by decide +kernel
theorem dL_law_629 : decode cL_law 629 = .ok (.iaload, 1) := by decide +kernel
theorem dL_law_630 : decode cL_law 630 = .ok (.invokevirtual 105, 3) := by decide +kernel
theorem dL_law_633 : decode cL_law 633 = .ok (.aload_n 2, 1) := by decide +kernel
theorem dL_law_634 : decode cL_law 634 = .ok (.aload_n 0, 1) := by decide +kernel
theorem dL_law_635 : decode cL_law 635 = .ok (.iload_n 3, 1) := by decide +kernel
theorem dL_law_636 : decode cL_law 636 = .ok (.iconst 1, 1) := by decide +kernel
theorem dL_law_637 : decode cL_law 637 = .ok (.iadd, 1) := by decide +kernel
theorem dL_law_638 : decode cL_law 638 = .ok (.iaload, 1) := by decide +kernel
theorem dL_law_639 : decode cL_law 639 = .ok (.invokevirtual 108, 3) := by decide +kernel
theorem dL_law_642 : decode cL_law 642 = .ok (.if_icmp .eq 42, 3) := by decide +kernel
theorem dL_law_645 : decode cL_law 645 = .ok (.iconst 0, 1) := by decide +kernel
theorem dL_law_646 : decode cL_law 646 = .ok (.ireturn, 1) := by decide +kernel
theorem dL_law_647 : decode cL_law 647 = .ok (.aload_n 1, 1) := by decide +kernel
theorem dL_law_648 : decode cL_law 648 = .ok (.aload_n 0, 1) := by decide +kernel
theorem dL_law_649 : decode cL_law 649 = .ok (.iload_n 3, 1) := by decide +kernel
theorem dL_law_650 : decode cL_law 650 = .ok (.iconst 1, 1) := by decide +kernel
theorem dL_law_651 : decode cL_law 651 = .ok (.iadd, 1) := by decide +kernel
theorem dL_law_652 : decode cL_law 652 = .ok (.iaload, 1) := by decide +kernel
theorem dL_law_653 : decode cL_law 653 = .ok (.invokevirtual 109, 3) := by decide +kernel
theorem dL_law_656 : decode cL_law 656 = .ok (.aload_n 2, 1) := by decide +kernel
theorem dL_law_657 : decode cL_law 657 = .ok (.aload_n 0, 1) := by decide +kernel
theorem dL_law_658 : decode cL_law 658 = .ok (.iload_n 3, 1) := by decide +kernel
theorem dL_law_659 : decode cL_law 659 = .ok (.iconst 1, 1) := by decide +kernel
theorem dL_law_660 : decode cL_law 660 = .ok (.iadd, 1) := by decide +kernel
theorem dL_law_661 : decode cL_law 661 = .ok (.iaload, 1) := by decide +kernel
theorem dL_law_662 : decode cL_law 662 = .ok (.invokevirtual 112, 3) := by decide +kernel
theorem dL_law_665 : decode cL_law 665 = .ok (.if_icmp .eq 19, 3) := by decide +kernel
theorem dL_law_668 : decode cL_law 668 = .ok (.iconst 0, 1) := by decide +kernel
theorem dL_law_669 : decode cL_law 669 = .ok (.ireturn, 1) := by decide +kernel
theorem dL_law_670 : decode cL_law 670 = .ok (.aload_n 1, 1) := by decide +kernel
theorem dL_law_671 : decode cL_law 671 = .ok (.invokevirtual 113, 3) := by decide +kernel
theorem dL_law_674 : decode cL_law 674 = .ok (.aload_n 2, 1) := by decide +kernel
theorem dL_law_675 : decode cL_law 675 = .ok (.invokevirtual 117, 3) := by decide +kernel
theorem dL_law_678 : decode cL_law 678 = .ok (.lcmp, 1) := by decide +kernel
theorem dL_law_679 : decode cL_law 679 = .ok (.ifCond .eq 5, 3) := by decide +kernel
theorem dL_law_682 : decode cL_law 682 = .ok (.iconst 0, 1) := by decide +kernel
theorem dL_law_683 : decode cL_law 683 = .ok (.ireturn, 1) := by decide +kernel
theorem dL_law_684 : decode cL_law 684 = .ok (.iinc 3 4, 3) := by decide +kernel
theorem dL_law_687 : decode cL_law 687 = .ok (.goto (-669), 3) := by decide +kernel
theorem dL_law_690 : decode cL_law 690 = .ok (.iconst 1, 1) := by decide +kernel
theorem dL_law_691 : decode cL_law 691 = .ok (.ireturn, 1) := by decide +kernel
end
section
/-! base rows: worlds of the class (wX) and of the reference (wM), their fields and arrays, calls that leave the heap as it is, loops -/
abbrev b2 (P : Prop) [Decidable P] : Int32 := if P then 1 else 0
theorem b2_0 {P : Prop} [Decidable P] (h : b2 P = 0) : ¬ P := fun hp => by rw [b2, if_pos hp] at h; exact absurd h (by decide)
theorem b2_1 {P : Prop} [Decidable P] (h : ¬ b2 P = 0) : P := Decidable.byContradiction fun hp => h (by rw [b2, if_neg hp])
theorem b2_t {P : Prop} [Decidable P] (h : P) : (1 : Int32) = b2 P := by rw [b2, if_pos h]
theorem b2_f {P : Prop} [Decidable P] (h : ¬ P) : (0 : Int32) = b2 P := by rw [b2, if_neg h]
theorem b2_nar {P : Prop} [Decidable P] : narrow .boolean (.int (b2 P)) = .int (b2 P) := by
  by_cases h : P
  · rw [b2, if_pos h]; rfl
  · rw [b2, if_neg h]; rfl
theorem b2_congr {P P' : Prop} [Decidable P] [Decidable P'] (h : P ↔ P') : b2 P = b2 P' := by
  by_cases hp : P
  · rw [b2, b2, if_pos hp, if_pos (h.mp hp)]
  · rw [b2, b2, if_neg hp, if_neg (fun z => hp (h.mpr z))]

def wX (cy : ClassId) (q : Nat → Nat) (tc gT gC nh ns : Int32) (ak : Int64) (ta pl cp kd fa fb bm sx sy : Nat → Int32) : va_W := [(q 0, .inr (0, [.int tc, .ref (q 1), .ref (q 2), .int gT, .int gC, .ref (q 3), .int nh, .ref (q 4), .ref (q 5), .ref (q 6), .ref (q 7), .int ns, .ref (q 8), .ref (q 9), .long ak])), (q 1, .inl (cy, 12, .inl ta)), (q 2, .inl (cy, 12, .inl pl)), (q 3, .inl (cy, 12, .inl cp)), (q 4, .inl (cy, 10, .inl kd)), (q 5, .inl (cy, 10, .inl fa)), (q 6, .inl (cy, 10, .inl fb)), (q 7, .inl (cy, 10, .inl bm)), (q 8, .inl (cy, 10, .inl sx)), (q 9, .inl (cy, 10, .inl sy))]
def wM (cy : ClassId) (q : Nat → Nat) (tc nh ns ff fm fw : Int32) (ak : Int64) (ta gh kd fa fb sx sy mb co : Nat → Int32) : va_W := [(q 0, .inr (1, [.int tc, .ref (q 1), .ref (q 2), .int nh, .ref (q 3), .ref (q 4), .ref (q 5), .int ns, .ref (q 6), .ref (q 7), .long ak, .ref (q 8), .int ff, .int fm, .int fw, .ref (q 9)])), (q 1, .inl (cy, 12, .inl ta)), (q 2, .inl (cy, 12, .inl gh)), (q 3, .inl (cy, 10, .inl kd)), (q 4, .inl (cy, 10, .inl fa)), (q 5, .inl (cy, 10, .inl fb)), (q 6, .inl (cy, 10, .inl sx)), (q 7, .inl (cy, 10, .inl sy)), (q 8, .inl (cy, 10, .inl mb)), (q 9, .inl (cy, 12, .inl co))]

def pcK (D : va_G) (cy : ClassId) (H : Heap) (av : List Value) : Array Value → State → Prop := va_Pc av (fun U => U.heap = H ∧ va_K D vwCl [(cy, .int)] U)
theorem pcK_blind {D : va_G} {cy : ClassId} {H : Heap} {av : List Value} : FrameBlind (pcK D cy H av) := fun a U g mk h => ⟨h.1, h.2.1, va_K.moved (u := U) (U := U.calling g mk a) (Vm.Alike.refl U.vm) h.2.2⟩
/-- what a method that writes leaves: its answer, a fact of the heap, the rest as it was -/
def qI (v : Option Value) (P : Heap → Prop) (A : Nat → Prop) : Array Value → State → Outcome → State → Prop := fun _ st o t => o = .returned v ∧ P t.heap ∧ st.heap.size ≤ t.heap.size ∧ ∀ z : Nat, z < st.heap.size → ¬ A z → t.heap[z]? = st.heap[z]?
def aL (q : Nat → Nat) : Nat → Prop := fun z => z = q 0 ∨ z = q 1 ∨ z = q 2 ∨ z = q 3 ∨ z = q 4 ∨ z = q 5 ∨ z = q 6 ∨ z = q 7 ∨ z = q 8 ∨ z = q 9
theorem vD_same {A : Nat → Prop} {w1 w2 : va_W} (h : w1.map Prod.fst = w2.map Prod.fst) (hD : va_D A w1) : va_D A w2 := by
  have key : ∀ (i : Nat) (p2 : Nat × va_E), w2[i]? = some p2 → ∃ p1, w1[i]? = some p1 ∧ p1.1 = p2.1 := by
    intro i p2 h2
    have e : (w1.map Prod.fst)[i]? = some p2.1 := by rw [h, List.getElem?_map, h2]; rfl
    rw [List.getElem?_map] at e
    cases h1 : w1[i]? with
    | none => rw [h1] at e; cases e
    | some p1 => rw [h1] at e; exact ⟨p1, rfl, Option.some.inj e⟩
  refine ⟨fun i j x y hx hy hxy => ?_, fun k y hy => ?_⟩
  · obtain ⟨x1, hx1, ex⟩ := key i x hx
    obtain ⟨y1, hy1, ey⟩ := key j y hy
    exact hD.1 i j x1 y1 hx1 hy1 (by rw [ex, ey, hxy])
  · obtain ⟨y1, hy1, ey⟩ := key k y hy
    rw [← ey]; exact hD.2 k y1 hy1
section
variable {l : Launch} {y : MethodName} {ws ws' : List Cond} {rm : Room} {cc : ByteArray} {maxL mc ms : Nat} {ret : Option FieldType} {Qc : Array Value → State → Outcome → State → Prop} {free : Addr → Prop} {D : va_G} {cy : ClassId} {H : Heap} {av : List Value}
/-- a method of an object: its walk from the entry -/
theorem mV (maxL : Nat) (hy : plainName y.cls = true) (hw : ws = Cond.code y cc maxL ret :: ws') (hn : (lg_sl av).length ≤ maxL)
    (body : ∀ (p : Program) (e : Env) (s : State) (m : MethodId) (below : List Frame) (meth : Method) (c : Code), p.tables.exec = Jvm.exec → c.code = cc → c.maxLocals = maxL → meth.sig.returnType = ret → meth.locks = false → (∀ w ∈ ws, w.before av.toArray s = true) → s.vm.findClass y.cls = some m.cls → meth.name = y.name → va_K D vwCl [(cy, .int)] s → s.heap = H → ∀ ls : Array Slot, lv_has ls maxL (lv_args 0 av) → W p l e rm s m av.toArray below meth c H [] 0 0 (MQ below Qc av.toArray s mc ms free) (F0 m 0 ls [])) :
    Met l y ws rm (pcK D cy H av) Qc mc ms free := by
  refine Met.ofW (cc := cc) (maxL := maxL) (ret := ret) hy hw ?_
  intro p e s m args below meth c s₁ B hml hv
  obtain ⟨rfl, hH, hK⟩ := hv
  have hl := lv_entry av (n := maxL) hn
  rw [lg_entry_eq, hH]
  exact body p e s m below meth c B.exec B.bytes hml B.returns B.notSynchronized (atoms_spec (ws := ws) B.pre) (findClass_of_methodNamed B.named) (name_of_methodNamed B.named B.method).1 hK hH _ hl
/-- a static method that reads nothing of the heap -/
theorem mS (maxL : Nat) (hy : plainName y.cls = true) (hw : ws = Cond.code y cc maxL ret :: ws') (hn : (lg_sl av).length ≤ maxL)
    (body : ∀ (p : Program) (e : Env) (s : State) (m : MethodId) (below : List Frame) (meth : Method) (c : Code), p.tables.exec = Jvm.exec → c.code = cc → c.maxLocals = maxL → meth.sig.returnType = ret → meth.locks = false → (∀ w ∈ ws, w.before av.toArray s = true) → s.vm.findClass y.cls = some m.cls → ∀ ls : Array Slot, lv_has ls maxL (lv_args 0 av) → W p l e rm s m av.toArray below meth c s.heap [] 0 0 (MQ below Qc av.toArray s mc ms free) (F0 m 0 ls [])) :
    Met l y ws rm (fun v _ => v = av.toArray) Qc mc ms free := by
  refine Met.ofW (cc := cc) (maxL := maxL) (ret := ret) hy hw ?_
  intro p e s m args below meth c s₁ B hml hv
  obtain rfl := hv
  have hl := lv_entry av (n := maxL) hn
  rw [lg_entry_eq]
  exact body p e s m below meth c B.exec B.bytes hml B.returns B.notSynchronized (atoms_spec (ws := ws) B.pre) (findClass_of_methodNamed B.named) _ hl
end
section
variable {p : Program} {l : Launch} {e : Env} {R : Room} {s : State} {m : MethodId} {args : Array Value} {below : List Frame} {meth : Method} {c : Code} {H : Heap} {locs : List Loc} {cells slots : Nat} {Q : State → Prop}
variable {cc bytes : ByteArray} {pc nL maxL n index : Nat} {ls : Array Slot} {rest st : List Value} {Ts ws : List Cond} {own C : String} {y : MethodName} {ret : Option FieldType} {rm : Room} {As : List Value} {D : va_G} {cy : ClassId}
/-- returns of methods that leave the heap as it is -/
theorem rI {v val : Int32} (hx : p.tables.exec = Jvm.exec) (hb : c.code = cc) (hr : meth.sig.returnType = some .int) (hlk : meth.locks = false) (hH : s.heap = H) (hdg : decode cc pc = .ok (.ireturn, 1)) (h : v = val) : W p l e R s m args below meth c H [] cells slots (MQ below (QcRead val) args s cells slots (fun _ => False)) (F0 m pc ls [.int v]) :=
  W.iret hx hb hr (fun t ht _ => ⟨by rw [h], ht.trans hH.symm⟩) (fun _ h => by cases h) hdg hlk
theorem rZ {v val : Int32} (hx : p.tables.exec = Jvm.exec) (hb : c.code = cc) (hr : meth.sig.returnType = some .boolean) (hlk : meth.locks = false) (hH : s.heap = H) (hdg : decode cc pc = .ok (.ireturn, 1)) (hn : narrow .boolean (.int v) = .int v) (h : v = val) : W p l e R s m args below meth c H [] cells slots (MQ below (QcRead val) args s cells slots (fun _ => False)) (F0 m pc ls [.int v]) :=
  W.zret hx hb hr hn (fun t ht _ => ⟨by rw [h], ht.trans hH.symm⟩) (fun _ h => by cases h) hdg hlk
/-- returns of methods that write -/
theorem rIw {A : Nat → Prop} {v val : Int32} {P : Heap → Prop} (hx : p.tables.exec = Jvm.exec) (hb : c.code = cc) (hr : meth.sig.returnType = some .int) (hlk : meth.locks = false) (hS : va_S A s.heap H locs) (hP : P H) (hdg : decode cc pc = .ok (.ireturn, 1)) (h : v = val) : W p l e R s m args below meth c H locs cells slots (MQ below (qI (some (.int val)) P A) args s cells slots A) (F0 m pc ls [.int v]) :=
  W.iret hx hb hr (fun t ht _ => ⟨by rw [h], by rw [ht]; exact hP, by rw [ht]; exact hS.1, fun z h1 h2 => by rw [ht]; exact hS.2.1 z h1 h2⟩) hS.2.2 hdg hlk
theorem rVw {A : Nat → Prop} {P : Heap → Prop} (hx : p.tables.exec = Jvm.exec) (hb : c.code = cc) (hr : meth.sig.returnType = none) (hlk : meth.locks = false) (hS : va_S A s.heap H locs) (hP : P H) (hdg : decode cc pc = .ok (.return_, 1)) : W p l e R s m args below meth c H locs cells slots (MQ below (qI none P A) args s cells slots A) (F0 m pc ls []) :=
  W.vret hx hb hr (fun t ht _ => ⟨rfl, by rw [ht]; exact hP, by rw [ht]; exact hS.1, fun z h1 h2 => by rw [ht]; exact hS.2.1 z h1 h2⟩) hS.2.2 hdg hlk
theorem rL {v val : Int64} (hx : p.tables.exec = Jvm.exec) (hb : c.code = cc) (hr : meth.sig.returnType = some .long) (hlk : meth.locks = false) (hH : s.heap = H) (hdg : decode cc pc = .ok (.lreturn, 1)) (h : v = val) : W p l e R s m args below meth c H [] cells slots (MQ below (qI (some (.long val)) (fun H1 => H1 = H) (fun _ => False)) args s cells slots (fun _ => False)) (F0 m pc ls [.long v]) :=
  W.lret hx hb hr (fun t ht _ => ⟨by rw [h], ht, by rw [ht, hH]; exact Nat.le_refl _, fun z _ _ => by rw [ht, hH]⟩) (fun _ h => by cases h) hdg hlk
/-- a call of a static method that leaves the heap as it is -/
theorem cS {val : Int32} (S : CallFix p m c cc nL s args Ts own) (hM : Met l y ws rm (fun v _ => v = As.toArray) (QcRead val) 0 0 (fun _ => False)) (rest : List Value) (cw : CallB R s args own index y bytes maxL ret ws rm 0 0 n ∧ (Cond.static y).before args s = true) (hn : As.length = n) (hsize : ls.size = nL) (hst : st = As.reverse ++ rest) (hW : (rest.map fun v => v.category).sum ≤ 8) (hdg : decode cc pc = .ok (.invokestatic index, 3)) (hf : cells + 0 ≤ R.cells ∧ slots + 0 ≤ R.slots)
    (kk : W p l e R s m args below meth c H locs cells slots Q (F0 m (pc + 3) ls (.int val :: rest))) : W p l e R s m args below meth c H locs cells slots Q (F0 m pc ls st) :=
  W.callR (W.runS (g := F0 m pc ls st) (rest := rest) S hM cw preEq rfl hn hsize hst (lv_room hW) hdg hf) kk
/-- a call of an object's method that leaves the heap as it is; the object is the world's first cell -/
theorem cV {val : Int32} {wl : va_W} {b ci : Nat} {fs : List Value} {T : u_T} {N : Nat} (S : CallFix p m c cc nL s args Ts own) (hK : va_K D vwCl [(cy, .int)] s) (hP : va_P D vwCl wl H) (he : wl[0]? = some (b, .inr (ci, fs))) (hc : vwCl[ci]? = some (C, T, N)) (hM : Met l y ws rm (pcK D cy H (.ref b :: As)) (QcRead val) 0 0 (fun _ => False)) (rest : List Value) (cw : CallW R s args own C index y bytes maxL ret ws rm 0 0 n) (hn : As.length = n) (hsize : ls.size = nL) (hst : st = As.reverse ++ .ref b :: rest) (hW : (rest.map fun v => v.category).sum ≤ 8) (hdg : decode cc pc = .ok (.invokevirtual index, 3)) (hf : cells + 0 ≤ R.cells ∧ slots + 0 ≤ R.slots)
    (kk : W p l e R s m args below meth c H locs cells slots Q (F0 m (pc + 3) ls (.int val :: rest))) : W p l e R s m args below meth c H locs cells slots Q (F0 m pc ls st) :=
  W.callR (W.runV (g := F0 m pc ls st) (rest := rest) S hM cw ⟨pcK_blind, va_recv hK hP hc he, fun U hU hW => ⟨rfl, hU, va_K.moved hW.alike hK⟩⟩ rfl hn hsize hst (lv_room hW) hdg hf) kk
/-- a call of an object's method that writes -/
theorem cVw {v : Option Value} {P : Heap → Prop} {A0 A1 : Nat → Prop} {H0 : Heap} {wl : va_W} {b ci : Nat} {fs : List Value} {T : u_T} {N : Nat} (S : CallFix p m c cc nL s args Ts own) (hK : va_K D vwCl [(cy, .int)] s) (hP : va_P D vwCl wl H) (he : wl[0]? = some (b, .inr (ci, fs))) (hc : vwCl[ci]? = some (C, T, N)) (hM : Met l y ws rm (pcK D cy H (.ref b :: As)) (qI v P A1) 0 0 A1) (rest : List Value) (cw : CallW R s args own C index y bytes maxL ret ws rm 0 0 n) (hn : As.length = n) (hsize : ls.size = nL) (hst : st = As.reverse ++ .ref b :: rest) (hW : (rest.map fun v => v.category).sum ≤ 8) (hdg : decode cc pc = .ok (.invokevirtual index, 3)) (hf : cells + 0 ≤ R.cells ∧ slots + 0 ≤ R.slots) (hS : va_S A0 H0 H locs) (hA : ∀ z, A1 z → A0 z)
    (kk : ∀ (H1 : Heap) (locs1 : List Loc), P H1 → H.size ≤ H1.size → (∀ z : Nat, z < H.size → ¬ A1 z → H1[z]? = H[z]?) → va_S A0 H0 H1 locs1 → W p l e R s m args below meth c H1 locs1 cells slots Q (F0 m (pc + 3) ls (v.toList ++ rest))) : W p l e R s m args below meth c H locs cells slots Q (F0 m pc ls st) := by
  intro T1 hT X
  obtain ⟨v', st₀, t, T', L, h0, X', hL, e1, ⟨hv, hp, hz, hk⟩, sg⟩ := W.runV (g := F0 m pc ls st) (rest := rest) S hM cw ⟨pcK_blind, va_recv hK hP hc he, fun U hU hW => ⟨rfl, hU, va_K.moved hW.alike hK⟩⟩ rfl hn hsize hst (lv_room hW) hdg hf T1 hT X
  cases hv
  rw [h0] at hz hk
  obtain ⟨t2, a1, b1⟩ := kk T'.heap (locs ++ L) (by rw [e1]; exact hp) (by rw [e1]; exact hz) (fun z h1 h2 => by rw [e1]; exact hk z h1 h2)
    ⟨Nat.le_trans hS.1 (by rw [e1]; exact hz), fun z h1 h2 => by rw [e1, hk z (Nat.lt_of_lt_of_le h1 hS.1) (fun w => h2 (hA z w))]; exact hS.2.1 z h1 h2, fun z hz => by
      rcases List.mem_append.mp hz with h | h
      · exact hS.2.2 z h
      · exact hA _ (hL z h)⟩ T' rfl X'
  exact ⟨t2, sg t2 a1, b1⟩
/-- a loop whose counter goes up to B; the heap stays -/
theorem lpP (hd : Nat) (I : Nat → Array Slot → Prop) (B : Nat) (step : ∀ (k : Nat) (ls : Array Slot), k ≤ B → I k ls → (∀ ls' : Array Slot, k < B → I (k + 1) ls' → W p l e R s m args below meth c H locs cells slots Q (F0 m hd ls' [])) → W p l e R s m args below meth c H locs cells slots Q (F0 m hd ls [])) (k : Nat) (ls : Array Slot) (hk : k ≤ B) (hI : I k ls) : W p l e R s m args below meth c H locs cells slots Q (F0 m hd ls []) := by
  obtain ⟨d, hd'⟩ : ∃ d, B - k = d := ⟨_, rfl⟩
  induction d generalizing k ls with
  | zero => exact step k ls hk hI (fun _ h => absurd h (by omega))
  | succ d ih => exact step k ls hk hI (fun ls' h hI' => ih (k + 1) ls' (by omega) hI' (by omega))
/-- a loop whose measure falls; the heap stays -/
theorem lpM {σ : Type} (hd : Nat) (I : σ → Array Slot → Prop) (μ : σ → Nat) (step : ∀ (a : σ) (ls : Array Slot), I a ls → (∀ (a' : σ) (ls' : Array Slot), μ a' < μ a → I a' ls' → W p l e R s m args below meth c H locs cells slots Q (F0 m hd ls' [])) → W p l e R s m args below meth c H locs cells slots Q (F0 m hd ls [])) (a : σ) (ls : Array Slot) (hI : I a ls) : W p l e R s m args below meth c H locs cells slots Q (F0 m hd ls []) := by
  obtain ⟨d, hd'⟩ : ∃ d, μ a < d := ⟨_, Nat.lt_succ_self _⟩
  induction d generalizing a ls with
  | zero => exact absurd hd' (by omega)
  | succ d ih => exact step a ls hI (fun a' ls' h hI' => ih a' ls' hI' (by omega))
/-- loops that write -/
theorem lpW {σ : Type} (hd : Nat) (I : σ → Array Slot → Heap → List Loc → Prop) (μ : σ → Nat) (step : ∀ (a : σ) (ls : Array Slot) (H : Heap) (locs : List Loc), I a ls H locs → (∀ (a' : σ) (ls' : Array Slot) (H' : Heap) (locs' : List Loc), μ a' < μ a → I a' ls' H' locs' → W p l e R s m args below meth c H' locs' cells slots Q (F0 m hd ls' [])) → W p l e R s m args below meth c H locs cells slots Q (F0 m hd ls [])) (a : σ) (ls : Array Slot) (hI : I a ls H locs) : W p l e R s m args below meth c H locs cells slots Q (F0 m hd ls []) := by
  obtain ⟨d, hd'⟩ : ∃ d, μ a < d := ⟨_, Nat.lt_succ_self _⟩
  induction d generalizing a ls H locs with
  | zero => exact absurd hd' (by omega)
  | succ d ih => exact step a ls H locs hI (fun a' ls' H' locs' h hI' => ih a' ls' hI' (by omega))

section
variable {q : Nat → Nat} {tc gT gC nh ns : Int32} {ak : Int64} {ta pl cp kd fa fb bm sx sy : Nat → Int32} {A : Nat → Prop} {H0 : Heap}
theorem gX_thingCount (hx : p.tables.exec = Jvm.exec) (hb : c.code = cc) (hts : ∀ w ∈ Ts, w.before args s = true) (hin : ∀ w ∈ wsX00, w ∈ Ts) (hown : s.vm.findClass RX0 = some m.cls) (hK : va_K D vwCl [(cy, .int)] s) (hP : va_P D vwCl (wX cy q tc gT gC nh ns ak ta pl cp kd fa fb bm sx sy) H) (hl : Cond.fieldLink RX0 index "TwoColours" "thingCount" "I" ∈ Ts) (hdg : decode cc pc = .ok (.getfield index, 3)) (kk : W p l e R s m args below meth c H locs cells slots Q (F0 m (pc + 3) ls (.int tc :: rest))) : W p l e R s m args below meth c H locs cells slots Q (F0 m pc ls (.ref (q 0) :: rest)) :=
  va_get (D := D) (ci := 0) (C := RX0) (T := TX0) (N := 15) hx hb hts hin hown hK hP 0 rfl rfl 0 (by decide) (hts _ hl) (fun _ h9 => h9) rfl hdg kk
theorem pX_thingCount {z : Int32} (hx : p.tables.exec = Jvm.exec) (hb : c.code = cc) (hts : ∀ w ∈ Ts, w.before args s = true) (hin : ∀ w ∈ wsX00, w ∈ Ts) (hown : s.vm.findClass RX0 = some m.cls) (hK : va_K D vwCl [(cy, .int)] s) (hP : va_P D vwCl (wX cy q tc gT gC nh ns ak ta pl cp kd fa fb bm sx sy) H) (hD : va_D A (wX cy q tc gT gC nh ns ak ta pl cp kd fa fb bm sx sy)) (hS : va_S A H0 H locs) (hl : Cond.fieldLink RX0 index "TwoColours" "thingCount" "I" ∈ Ts) (hdg : decode cc pc = .ok (.putfield index, 3)) (kk : ∀ (H1 : Heap) (locs1 : List Loc), va_P D vwCl (wX cy q z gT gC nh ns ak ta pl cp kd fa fb bm sx sy) H1 → va_D A (wX cy q z gT gC nh ns ak ta pl cp kd fa fb bm sx sy) → va_S A H0 H1 locs1 → W p l e R s m args below meth c H1 locs1 cells slots Q (F0 m (pc + 3) ls rest)) : W p l e R s m args below meth c H locs cells slots Q (F0 m pc ls (.int z :: .ref (q 0) :: rest)) :=
  va_put (D := D) (ci := 0) (v := .int z) (ty := .int) (C := RX0) (T := TX0) (N := 15) hx hb hts hin tyX0 tyX0_ok nmX0 hown hK hP hD hS 0 rfl rfl 0 (by decide) (hts _ hl) (fun _ h9 => h9) rfl (by decide +kernel) rfl rfl (Nat.le_of_ble_eq_true rfl) hdg kk
theorem gX_thingAt (hx : p.tables.exec = Jvm.exec) (hb : c.code = cc) (hts : ∀ w ∈ Ts, w.before args s = true) (hin : ∀ w ∈ wsX00, w ∈ Ts) (hown : s.vm.findClass RX0 = some m.cls) (hK : va_K D vwCl [(cy, .int)] s) (hP : va_P D vwCl (wX cy q tc gT gC nh ns ak ta pl cp kd fa fb bm sx sy) H) (hl : Cond.fieldLink RX0 index "TwoColours" "thingAt" "[I" ∈ Ts) (hdg : decode cc pc = .ok (.getfield index, 3)) (kk : W p l e R s m args below meth c H locs cells slots Q (F0 m (pc + 3) ls (.ref (q 1) :: rest))) : W p l e R s m args below meth c H locs cells slots Q (F0 m pc ls (.ref (q 0) :: rest)) :=
  va_get (D := D) (ci := 0) (C := RX0) (T := TX0) (N := 15) hx hb hts hin hown hK hP 0 rfl rfl 1 (by decide) (hts _ hl) (fun _ h9 => h9) rfl hdg kk
theorem ldX_thingAt {i : Int32} {j : Nat} (hx : p.tables.exec = Jvm.exec) (hb : c.code = cc) (hK : va_K D vwCl [(cy, .int)] s) (hP : va_P D vwCl (wX cy q tc gT gC nh ns ak ta pl cp kd fa fb bm sx sy) H) (hi : i = nI j) (hj : j < 12) (hdg : decode cc pc = .ok (.iaload, 1)) (kk : W p l e R s m args below meth c H locs cells slots Q (F0 m (pc + 1) ls (.int (ta j) :: rest))) : W p l e R s m args below meth c H locs cells slots Q (F0 m pc ls (.int i :: .ref (q 1) :: rest)) := by
  subst hi; exact va_iald (f := ta) hx hb hK hP 1 0 rfl rfl (vp_in_nI hj (by omega)) hdg (by rw [nI_clamp (by omega)]; exact kk)
theorem stX_thingAt {i z : Int32} {j : Nat} (hx : p.tables.exec = Jvm.exec) (hb : c.code = cc) (hK : va_K D vwCl [(cy, .int)] s) (hP : va_P D vwCl (wX cy q tc gT gC nh ns ak ta pl cp kd fa fb bm sx sy) H) (hD : va_D A (wX cy q tc gT gC nh ns ak ta pl cp kd fa fb bm sx sy)) (hS : va_S A H0 H locs) (hi : i = nI j) (hj : j < 12) (hdg : decode cc pc = .ok (.iastore, 1)) (kk : ∀ (H1 : Heap) (locs1 : List Loc), va_P D vwCl (wX cy q tc gT gC nh ns ak (upd ta j z) pl cp kd fa fb bm sx sy) H1 → va_D A (wX cy q tc gT gC nh ns ak (upd ta j z) pl cp kd fa fb bm sx sy) → va_S A H0 H1 locs1 → W p l e R s m args below meth c H1 locs1 cells slots Q (F0 m (pc + 1) ls rest)) : W p l e R s m args below meth c H locs cells slots Q (F0 m pc ls (.int z :: .int i :: .ref (q 1) :: rest)) := by
  subst hi; exact va_iast (f := ta) hx hb hK hP hD hS 1 0 rfl rfl (vp_in_nI hj (by omega)) hdg (by rw [nI_clamp (by omega)]; exact kk)
theorem gX_placeOf (hx : p.tables.exec = Jvm.exec) (hb : c.code = cc) (hts : ∀ w ∈ Ts, w.before args s = true) (hin : ∀ w ∈ wsX00, w ∈ Ts) (hown : s.vm.findClass RX0 = some m.cls) (hK : va_K D vwCl [(cy, .int)] s) (hP : va_P D vwCl (wX cy q tc gT gC nh ns ak ta pl cp kd fa fb bm sx sy) H) (hl : Cond.fieldLink RX0 index "TwoColours" "placeOf" "[I" ∈ Ts) (hdg : decode cc pc = .ok (.getfield index, 3)) (kk : W p l e R s m args below meth c H locs cells slots Q (F0 m (pc + 3) ls (.ref (q 2) :: rest))) : W p l e R s m args below meth c H locs cells slots Q (F0 m pc ls (.ref (q 0) :: rest)) :=
  va_get (D := D) (ci := 0) (C := RX0) (T := TX0) (N := 15) hx hb hts hin hown hK hP 0 rfl rfl 2 (by decide) (hts _ hl) (fun _ h9 => h9) rfl hdg kk
theorem ldX_placeOf {i : Int32} {j : Nat} (hx : p.tables.exec = Jvm.exec) (hb : c.code = cc) (hK : va_K D vwCl [(cy, .int)] s) (hP : va_P D vwCl (wX cy q tc gT gC nh ns ak ta pl cp kd fa fb bm sx sy) H) (hi : i = nI j) (hj : j < 12) (hdg : decode cc pc = .ok (.iaload, 1)) (kk : W p l e R s m args below meth c H locs cells slots Q (F0 m (pc + 1) ls (.int (pl j) :: rest))) : W p l e R s m args below meth c H locs cells slots Q (F0 m pc ls (.int i :: .ref (q 2) :: rest)) := by
  subst hi; exact va_iald (f := pl) hx hb hK hP 2 0 rfl rfl (vp_in_nI hj (by omega)) hdg (by rw [nI_clamp (by omega)]; exact kk)
theorem stX_placeOf {i z : Int32} {j : Nat} (hx : p.tables.exec = Jvm.exec) (hb : c.code = cc) (hK : va_K D vwCl [(cy, .int)] s) (hP : va_P D vwCl (wX cy q tc gT gC nh ns ak ta pl cp kd fa fb bm sx sy) H) (hD : va_D A (wX cy q tc gT gC nh ns ak ta pl cp kd fa fb bm sx sy)) (hS : va_S A H0 H locs) (hi : i = nI j) (hj : j < 12) (hdg : decode cc pc = .ok (.iastore, 1)) (kk : ∀ (H1 : Heap) (locs1 : List Loc), va_P D vwCl (wX cy q tc gT gC nh ns ak ta (upd pl j z) cp kd fa fb bm sx sy) H1 → va_D A (wX cy q tc gT gC nh ns ak ta (upd pl j z) cp kd fa fb bm sx sy) → va_S A H0 H1 locs1 → W p l e R s m args below meth c H1 locs1 cells slots Q (F0 m (pc + 1) ls rest)) : W p l e R s m args below meth c H locs cells slots Q (F0 m pc ls (.int z :: .int i :: .ref (q 2) :: rest)) := by
  subst hi; exact va_iast (f := pl) hx hb hK hP hD hS 2 0 rfl rfl (vp_in_nI hj (by omega)) hdg (by rw [nI_clamp (by omega)]; exact kk)
theorem gX_heldThings (hx : p.tables.exec = Jvm.exec) (hb : c.code = cc) (hts : ∀ w ∈ Ts, w.before args s = true) (hin : ∀ w ∈ wsX00, w ∈ Ts) (hown : s.vm.findClass RX0 = some m.cls) (hK : va_K D vwCl [(cy, .int)] s) (hP : va_P D vwCl (wX cy q tc gT gC nh ns ak ta pl cp kd fa fb bm sx sy) H) (hl : Cond.fieldLink RX0 index "TwoColours" "heldThings" "I" ∈ Ts) (hdg : decode cc pc = .ok (.getfield index, 3)) (kk : W p l e R s m args below meth c H locs cells slots Q (F0 m (pc + 3) ls (.int gT :: rest))) : W p l e R s m args below meth c H locs cells slots Q (F0 m pc ls (.ref (q 0) :: rest)) :=
  va_get (D := D) (ci := 0) (C := RX0) (T := TX0) (N := 15) hx hb hts hin hown hK hP 0 rfl rfl 3 (by decide) (hts _ hl) (fun _ h9 => h9) rfl hdg kk
theorem pX_heldThings {z : Int32} (hx : p.tables.exec = Jvm.exec) (hb : c.code = cc) (hts : ∀ w ∈ Ts, w.before args s = true) (hin : ∀ w ∈ wsX00, w ∈ Ts) (hown : s.vm.findClass RX0 = some m.cls) (hK : va_K D vwCl [(cy, .int)] s) (hP : va_P D vwCl (wX cy q tc gT gC nh ns ak ta pl cp kd fa fb bm sx sy) H) (hD : va_D A (wX cy q tc gT gC nh ns ak ta pl cp kd fa fb bm sx sy)) (hS : va_S A H0 H locs) (hl : Cond.fieldLink RX0 index "TwoColours" "heldThings" "I" ∈ Ts) (hdg : decode cc pc = .ok (.putfield index, 3)) (kk : ∀ (H1 : Heap) (locs1 : List Loc), va_P D vwCl (wX cy q tc z gC nh ns ak ta pl cp kd fa fb bm sx sy) H1 → va_D A (wX cy q tc z gC nh ns ak ta pl cp kd fa fb bm sx sy) → va_S A H0 H1 locs1 → W p l e R s m args below meth c H1 locs1 cells slots Q (F0 m (pc + 3) ls rest)) : W p l e R s m args below meth c H locs cells slots Q (F0 m pc ls (.int z :: .ref (q 0) :: rest)) :=
  va_put (D := D) (ci := 0) (v := .int z) (ty := .int) (C := RX0) (T := TX0) (N := 15) hx hb hts hin tyX0 tyX0_ok nmX0 hown hK hP hD hS 0 rfl rfl 3 (by decide) (hts _ hl) (fun _ h9 => h9) rfl (by decide +kernel) rfl rfl (Nat.le_of_ble_eq_true rfl) hdg kk
theorem gX_heldColours (hx : p.tables.exec = Jvm.exec) (hb : c.code = cc) (hts : ∀ w ∈ Ts, w.before args s = true) (hin : ∀ w ∈ wsX00, w ∈ Ts) (hown : s.vm.findClass RX0 = some m.cls) (hK : va_K D vwCl [(cy, .int)] s) (hP : va_P D vwCl (wX cy q tc gT gC nh ns ak ta pl cp kd fa fb bm sx sy) H) (hl : Cond.fieldLink RX0 index "TwoColours" "heldColours" "I" ∈ Ts) (hdg : decode cc pc = .ok (.getfield index, 3)) (kk : W p l e R s m args below meth c H locs cells slots Q (F0 m (pc + 3) ls (.int gC :: rest))) : W p l e R s m args below meth c H locs cells slots Q (F0 m pc ls (.ref (q 0) :: rest)) :=
  va_get (D := D) (ci := 0) (C := RX0) (T := TX0) (N := 15) hx hb hts hin hown hK hP 0 rfl rfl 4 (by decide) (hts _ hl) (fun _ h9 => h9) rfl hdg kk
theorem pX_heldColours {z : Int32} (hx : p.tables.exec = Jvm.exec) (hb : c.code = cc) (hts : ∀ w ∈ Ts, w.before args s = true) (hin : ∀ w ∈ wsX00, w ∈ Ts) (hown : s.vm.findClass RX0 = some m.cls) (hK : va_K D vwCl [(cy, .int)] s) (hP : va_P D vwCl (wX cy q tc gT gC nh ns ak ta pl cp kd fa fb bm sx sy) H) (hD : va_D A (wX cy q tc gT gC nh ns ak ta pl cp kd fa fb bm sx sy)) (hS : va_S A H0 H locs) (hl : Cond.fieldLink RX0 index "TwoColours" "heldColours" "I" ∈ Ts) (hdg : decode cc pc = .ok (.putfield index, 3)) (kk : ∀ (H1 : Heap) (locs1 : List Loc), va_P D vwCl (wX cy q tc gT z nh ns ak ta pl cp kd fa fb bm sx sy) H1 → va_D A (wX cy q tc gT z nh ns ak ta pl cp kd fa fb bm sx sy) → va_S A H0 H1 locs1 → W p l e R s m args below meth c H1 locs1 cells slots Q (F0 m (pc + 3) ls rest)) : W p l e R s m args below meth c H locs cells slots Q (F0 m pc ls (.int z :: .ref (q 0) :: rest)) :=
  va_put (D := D) (ci := 0) (v := .int z) (ty := .int) (C := RX0) (T := TX0) (N := 15) hx hb hts hin tyX0 tyX0_ok nmX0 hown hK hP hD hS 0 rfl rfl 4 (by decide) (hts _ hl) (fun _ h9 => h9) rfl (by decide +kernel) rfl rfl (Nat.le_of_ble_eq_true rfl) hdg kk
theorem gX_colourByPairs (hx : p.tables.exec = Jvm.exec) (hb : c.code = cc) (hts : ∀ w ∈ Ts, w.before args s = true) (hin : ∀ w ∈ wsX00, w ∈ Ts) (hown : s.vm.findClass RX0 = some m.cls) (hK : va_K D vwCl [(cy, .int)] s) (hP : va_P D vwCl (wX cy q tc gT gC nh ns ak ta pl cp kd fa fb bm sx sy) H) (hl : Cond.fieldLink RX0 index "TwoColours" "colourByPairs" "[I" ∈ Ts) (hdg : decode cc pc = .ok (.getfield index, 3)) (kk : W p l e R s m args below meth c H locs cells slots Q (F0 m (pc + 3) ls (.ref (q 3) :: rest))) : W p l e R s m args below meth c H locs cells slots Q (F0 m pc ls (.ref (q 0) :: rest)) :=
  va_get (D := D) (ci := 0) (C := RX0) (T := TX0) (N := 15) hx hb hts hin hown hK hP 0 rfl rfl 5 (by decide) (hts _ hl) (fun _ h9 => h9) rfl hdg kk
theorem ldX_colourByPairs {i : Int32} {j : Nat} (hx : p.tables.exec = Jvm.exec) (hb : c.code = cc) (hK : va_K D vwCl [(cy, .int)] s) (hP : va_P D vwCl (wX cy q tc gT gC nh ns ak ta pl cp kd fa fb bm sx sy) H) (hi : i = nI j) (hj : j < 12) (hdg : decode cc pc = .ok (.iaload, 1)) (kk : W p l e R s m args below meth c H locs cells slots Q (F0 m (pc + 1) ls (.int (cp j) :: rest))) : W p l e R s m args below meth c H locs cells slots Q (F0 m pc ls (.int i :: .ref (q 3) :: rest)) := by
  subst hi; exact va_iald (f := cp) hx hb hK hP 3 0 rfl rfl (vp_in_nI hj (by omega)) hdg (by rw [nI_clamp (by omega)]; exact kk)
theorem stX_colourByPairs {i z : Int32} {j : Nat} (hx : p.tables.exec = Jvm.exec) (hb : c.code = cc) (hK : va_K D vwCl [(cy, .int)] s) (hP : va_P D vwCl (wX cy q tc gT gC nh ns ak ta pl cp kd fa fb bm sx sy) H) (hD : va_D A (wX cy q tc gT gC nh ns ak ta pl cp kd fa fb bm sx sy)) (hS : va_S A H0 H locs) (hi : i = nI j) (hj : j < 12) (hdg : decode cc pc = .ok (.iastore, 1)) (kk : ∀ (H1 : Heap) (locs1 : List Loc), va_P D vwCl (wX cy q tc gT gC nh ns ak ta pl (upd cp j z) kd fa fb bm sx sy) H1 → va_D A (wX cy q tc gT gC nh ns ak ta pl (upd cp j z) kd fa fb bm sx sy) → va_S A H0 H1 locs1 → W p l e R s m args below meth c H1 locs1 cells slots Q (F0 m (pc + 1) ls rest)) : W p l e R s m args below meth c H locs cells slots Q (F0 m pc ls (.int z :: .int i :: .ref (q 3) :: rest)) := by
  subst hi; exact va_iast (f := cp) hx hb hK hP hD hS 3 0 rfl rfl (vp_in_nI hj (by omega)) hdg (by rw [nI_clamp (by omega)]; exact kk)
theorem gX_heapCount (hx : p.tables.exec = Jvm.exec) (hb : c.code = cc) (hts : ∀ w ∈ Ts, w.before args s = true) (hin : ∀ w ∈ wsX00, w ∈ Ts) (hown : s.vm.findClass RX0 = some m.cls) (hK : va_K D vwCl [(cy, .int)] s) (hP : va_P D vwCl (wX cy q tc gT gC nh ns ak ta pl cp kd fa fb bm sx sy) H) (hl : Cond.fieldLink RX0 index "TwoColours" "heapCount" "I" ∈ Ts) (hdg : decode cc pc = .ok (.getfield index, 3)) (kk : W p l e R s m args below meth c H locs cells slots Q (F0 m (pc + 3) ls (.int nh :: rest))) : W p l e R s m args below meth c H locs cells slots Q (F0 m pc ls (.ref (q 0) :: rest)) :=
  va_get (D := D) (ci := 0) (C := RX0) (T := TX0) (N := 15) hx hb hts hin hown hK hP 0 rfl rfl 6 (by decide) (hts _ hl) (fun _ h9 => h9) rfl hdg kk
theorem pX_heapCount {z : Int32} (hx : p.tables.exec = Jvm.exec) (hb : c.code = cc) (hts : ∀ w ∈ Ts, w.before args s = true) (hin : ∀ w ∈ wsX00, w ∈ Ts) (hown : s.vm.findClass RX0 = some m.cls) (hK : va_K D vwCl [(cy, .int)] s) (hP : va_P D vwCl (wX cy q tc gT gC nh ns ak ta pl cp kd fa fb bm sx sy) H) (hD : va_D A (wX cy q tc gT gC nh ns ak ta pl cp kd fa fb bm sx sy)) (hS : va_S A H0 H locs) (hl : Cond.fieldLink RX0 index "TwoColours" "heapCount" "I" ∈ Ts) (hdg : decode cc pc = .ok (.putfield index, 3)) (kk : ∀ (H1 : Heap) (locs1 : List Loc), va_P D vwCl (wX cy q tc gT gC z ns ak ta pl cp kd fa fb bm sx sy) H1 → va_D A (wX cy q tc gT gC z ns ak ta pl cp kd fa fb bm sx sy) → va_S A H0 H1 locs1 → W p l e R s m args below meth c H1 locs1 cells slots Q (F0 m (pc + 3) ls rest)) : W p l e R s m args below meth c H locs cells slots Q (F0 m pc ls (.int z :: .ref (q 0) :: rest)) :=
  va_put (D := D) (ci := 0) (v := .int z) (ty := .int) (C := RX0) (T := TX0) (N := 15) hx hb hts hin tyX0 tyX0_ok nmX0 hown hK hP hD hS 0 rfl rfl 6 (by decide) (hts _ hl) (fun _ h9 => h9) rfl (by decide +kernel) rfl rfl (Nat.le_of_ble_eq_true rfl) hdg kk
theorem gX_heapKind (hx : p.tables.exec = Jvm.exec) (hb : c.code = cc) (hts : ∀ w ∈ Ts, w.before args s = true) (hin : ∀ w ∈ wsX00, w ∈ Ts) (hown : s.vm.findClass RX0 = some m.cls) (hK : va_K D vwCl [(cy, .int)] s) (hP : va_P D vwCl (wX cy q tc gT gC nh ns ak ta pl cp kd fa fb bm sx sy) H) (hl : Cond.fieldLink RX0 index "TwoColours" "heapKind" "[I" ∈ Ts) (hdg : decode cc pc = .ok (.getfield index, 3)) (kk : W p l e R s m args below meth c H locs cells slots Q (F0 m (pc + 3) ls (.ref (q 4) :: rest))) : W p l e R s m args below meth c H locs cells slots Q (F0 m pc ls (.ref (q 0) :: rest)) :=
  va_get (D := D) (ci := 0) (C := RX0) (T := TX0) (N := 15) hx hb hts hin hown hK hP 0 rfl rfl 7 (by decide) (hts _ hl) (fun _ h9 => h9) rfl hdg kk
theorem ldX_heapKind {i : Int32} {j : Nat} (hx : p.tables.exec = Jvm.exec) (hb : c.code = cc) (hK : va_K D vwCl [(cy, .int)] s) (hP : va_P D vwCl (wX cy q tc gT gC nh ns ak ta pl cp kd fa fb bm sx sy) H) (hi : i = nI j) (hj : j < 10) (hdg : decode cc pc = .ok (.iaload, 1)) (kk : W p l e R s m args below meth c H locs cells slots Q (F0 m (pc + 1) ls (.int (kd j) :: rest))) : W p l e R s m args below meth c H locs cells slots Q (F0 m pc ls (.int i :: .ref (q 4) :: rest)) := by
  subst hi; exact va_iald (f := kd) hx hb hK hP 4 0 rfl rfl (vp_in_nI hj (by omega)) hdg (by rw [nI_clamp (by omega)]; exact kk)
theorem stX_heapKind {i z : Int32} {j : Nat} (hx : p.tables.exec = Jvm.exec) (hb : c.code = cc) (hK : va_K D vwCl [(cy, .int)] s) (hP : va_P D vwCl (wX cy q tc gT gC nh ns ak ta pl cp kd fa fb bm sx sy) H) (hD : va_D A (wX cy q tc gT gC nh ns ak ta pl cp kd fa fb bm sx sy)) (hS : va_S A H0 H locs) (hi : i = nI j) (hj : j < 10) (hdg : decode cc pc = .ok (.iastore, 1)) (kk : ∀ (H1 : Heap) (locs1 : List Loc), va_P D vwCl (wX cy q tc gT gC nh ns ak ta pl cp (upd kd j z) fa fb bm sx sy) H1 → va_D A (wX cy q tc gT gC nh ns ak ta pl cp (upd kd j z) fa fb bm sx sy) → va_S A H0 H1 locs1 → W p l e R s m args below meth c H1 locs1 cells slots Q (F0 m (pc + 1) ls rest)) : W p l e R s m args below meth c H locs cells slots Q (F0 m pc ls (.int z :: .int i :: .ref (q 4) :: rest)) := by
  subst hi; exact va_iast (f := kd) hx hb hK hP hD hS 4 0 rfl rfl (vp_in_nI hj (by omega)) hdg (by rw [nI_clamp (by omega)]; exact kk)
theorem gX_heapA (hx : p.tables.exec = Jvm.exec) (hb : c.code = cc) (hts : ∀ w ∈ Ts, w.before args s = true) (hin : ∀ w ∈ wsX00, w ∈ Ts) (hown : s.vm.findClass RX0 = some m.cls) (hK : va_K D vwCl [(cy, .int)] s) (hP : va_P D vwCl (wX cy q tc gT gC nh ns ak ta pl cp kd fa fb bm sx sy) H) (hl : Cond.fieldLink RX0 index "TwoColours" "heapA" "[I" ∈ Ts) (hdg : decode cc pc = .ok (.getfield index, 3)) (kk : W p l e R s m args below meth c H locs cells slots Q (F0 m (pc + 3) ls (.ref (q 5) :: rest))) : W p l e R s m args below meth c H locs cells slots Q (F0 m pc ls (.ref (q 0) :: rest)) :=
  va_get (D := D) (ci := 0) (C := RX0) (T := TX0) (N := 15) hx hb hts hin hown hK hP 0 rfl rfl 8 (by decide) (hts _ hl) (fun _ h9 => h9) rfl hdg kk
theorem ldX_heapA {i : Int32} {j : Nat} (hx : p.tables.exec = Jvm.exec) (hb : c.code = cc) (hK : va_K D vwCl [(cy, .int)] s) (hP : va_P D vwCl (wX cy q tc gT gC nh ns ak ta pl cp kd fa fb bm sx sy) H) (hi : i = nI j) (hj : j < 10) (hdg : decode cc pc = .ok (.iaload, 1)) (kk : W p l e R s m args below meth c H locs cells slots Q (F0 m (pc + 1) ls (.int (fa j) :: rest))) : W p l e R s m args below meth c H locs cells slots Q (F0 m pc ls (.int i :: .ref (q 5) :: rest)) := by
  subst hi; exact va_iald (f := fa) hx hb hK hP 5 0 rfl rfl (vp_in_nI hj (by omega)) hdg (by rw [nI_clamp (by omega)]; exact kk)
theorem stX_heapA {i z : Int32} {j : Nat} (hx : p.tables.exec = Jvm.exec) (hb : c.code = cc) (hK : va_K D vwCl [(cy, .int)] s) (hP : va_P D vwCl (wX cy q tc gT gC nh ns ak ta pl cp kd fa fb bm sx sy) H) (hD : va_D A (wX cy q tc gT gC nh ns ak ta pl cp kd fa fb bm sx sy)) (hS : va_S A H0 H locs) (hi : i = nI j) (hj : j < 10) (hdg : decode cc pc = .ok (.iastore, 1)) (kk : ∀ (H1 : Heap) (locs1 : List Loc), va_P D vwCl (wX cy q tc gT gC nh ns ak ta pl cp kd (upd fa j z) fb bm sx sy) H1 → va_D A (wX cy q tc gT gC nh ns ak ta pl cp kd (upd fa j z) fb bm sx sy) → va_S A H0 H1 locs1 → W p l e R s m args below meth c H1 locs1 cells slots Q (F0 m (pc + 1) ls rest)) : W p l e R s m args below meth c H locs cells slots Q (F0 m pc ls (.int z :: .int i :: .ref (q 5) :: rest)) := by
  subst hi; exact va_iast (f := fa) hx hb hK hP hD hS 5 0 rfl rfl (vp_in_nI hj (by omega)) hdg (by rw [nI_clamp (by omega)]; exact kk)
theorem gX_heapB (hx : p.tables.exec = Jvm.exec) (hb : c.code = cc) (hts : ∀ w ∈ Ts, w.before args s = true) (hin : ∀ w ∈ wsX00, w ∈ Ts) (hown : s.vm.findClass RX0 = some m.cls) (hK : va_K D vwCl [(cy, .int)] s) (hP : va_P D vwCl (wX cy q tc gT gC nh ns ak ta pl cp kd fa fb bm sx sy) H) (hl : Cond.fieldLink RX0 index "TwoColours" "heapB" "[I" ∈ Ts) (hdg : decode cc pc = .ok (.getfield index, 3)) (kk : W p l e R s m args below meth c H locs cells slots Q (F0 m (pc + 3) ls (.ref (q 6) :: rest))) : W p l e R s m args below meth c H locs cells slots Q (F0 m pc ls (.ref (q 0) :: rest)) :=
  va_get (D := D) (ci := 0) (C := RX0) (T := TX0) (N := 15) hx hb hts hin hown hK hP 0 rfl rfl 9 (by decide) (hts _ hl) (fun _ h9 => h9) rfl hdg kk
theorem ldX_heapB {i : Int32} {j : Nat} (hx : p.tables.exec = Jvm.exec) (hb : c.code = cc) (hK : va_K D vwCl [(cy, .int)] s) (hP : va_P D vwCl (wX cy q tc gT gC nh ns ak ta pl cp kd fa fb bm sx sy) H) (hi : i = nI j) (hj : j < 10) (hdg : decode cc pc = .ok (.iaload, 1)) (kk : W p l e R s m args below meth c H locs cells slots Q (F0 m (pc + 1) ls (.int (fb j) :: rest))) : W p l e R s m args below meth c H locs cells slots Q (F0 m pc ls (.int i :: .ref (q 6) :: rest)) := by
  subst hi; exact va_iald (f := fb) hx hb hK hP 6 0 rfl rfl (vp_in_nI hj (by omega)) hdg (by rw [nI_clamp (by omega)]; exact kk)
theorem stX_heapB {i z : Int32} {j : Nat} (hx : p.tables.exec = Jvm.exec) (hb : c.code = cc) (hK : va_K D vwCl [(cy, .int)] s) (hP : va_P D vwCl (wX cy q tc gT gC nh ns ak ta pl cp kd fa fb bm sx sy) H) (hD : va_D A (wX cy q tc gT gC nh ns ak ta pl cp kd fa fb bm sx sy)) (hS : va_S A H0 H locs) (hi : i = nI j) (hj : j < 10) (hdg : decode cc pc = .ok (.iastore, 1)) (kk : ∀ (H1 : Heap) (locs1 : List Loc), va_P D vwCl (wX cy q tc gT gC nh ns ak ta pl cp kd fa (upd fb j z) bm sx sy) H1 → va_D A (wX cy q tc gT gC nh ns ak ta pl cp kd fa (upd fb j z) bm sx sy) → va_S A H0 H1 locs1 → W p l e R s m args below meth c H1 locs1 cells slots Q (F0 m (pc + 1) ls rest)) : W p l e R s m args below meth c H locs cells slots Q (F0 m pc ls (.int z :: .int i :: .ref (q 6) :: rest)) := by
  subst hi; exact va_iast (f := fb) hx hb hK hP hD hS 6 0 rfl rfl (vp_in_nI hj (by omega)) hdg (by rw [nI_clamp (by omega)]; exact kk)
theorem gX_heapBits (hx : p.tables.exec = Jvm.exec) (hb : c.code = cc) (hts : ∀ w ∈ Ts, w.before args s = true) (hin : ∀ w ∈ wsX00, w ∈ Ts) (hown : s.vm.findClass RX0 = some m.cls) (hK : va_K D vwCl [(cy, .int)] s) (hP : va_P D vwCl (wX cy q tc gT gC nh ns ak ta pl cp kd fa fb bm sx sy) H) (hl : Cond.fieldLink RX0 index "TwoColours" "heapBits" "[I" ∈ Ts) (hdg : decode cc pc = .ok (.getfield index, 3)) (kk : W p l e R s m args below meth c H locs cells slots Q (F0 m (pc + 3) ls (.ref (q 7) :: rest))) : W p l e R s m args below meth c H locs cells slots Q (F0 m pc ls (.ref (q 0) :: rest)) :=
  va_get (D := D) (ci := 0) (C := RX0) (T := TX0) (N := 15) hx hb hts hin hown hK hP 0 rfl rfl 10 (by decide) (hts _ hl) (fun _ h9 => h9) rfl hdg kk
theorem ldX_heapBits {i : Int32} {j : Nat} (hx : p.tables.exec = Jvm.exec) (hb : c.code = cc) (hK : va_K D vwCl [(cy, .int)] s) (hP : va_P D vwCl (wX cy q tc gT gC nh ns ak ta pl cp kd fa fb bm sx sy) H) (hi : i = nI j) (hj : j < 10) (hdg : decode cc pc = .ok (.iaload, 1)) (kk : W p l e R s m args below meth c H locs cells slots Q (F0 m (pc + 1) ls (.int (bm j) :: rest))) : W p l e R s m args below meth c H locs cells slots Q (F0 m pc ls (.int i :: .ref (q 7) :: rest)) := by
  subst hi; exact va_iald (f := bm) hx hb hK hP 7 0 rfl rfl (vp_in_nI hj (by omega)) hdg (by rw [nI_clamp (by omega)]; exact kk)
theorem stX_heapBits {i z : Int32} {j : Nat} (hx : p.tables.exec = Jvm.exec) (hb : c.code = cc) (hK : va_K D vwCl [(cy, .int)] s) (hP : va_P D vwCl (wX cy q tc gT gC nh ns ak ta pl cp kd fa fb bm sx sy) H) (hD : va_D A (wX cy q tc gT gC nh ns ak ta pl cp kd fa fb bm sx sy)) (hS : va_S A H0 H locs) (hi : i = nI j) (hj : j < 10) (hdg : decode cc pc = .ok (.iastore, 1)) (kk : ∀ (H1 : Heap) (locs1 : List Loc), va_P D vwCl (wX cy q tc gT gC nh ns ak ta pl cp kd fa fb (upd bm j z) sx sy) H1 → va_D A (wX cy q tc gT gC nh ns ak ta pl cp kd fa fb (upd bm j z) sx sy) → va_S A H0 H1 locs1 → W p l e R s m args below meth c H1 locs1 cells slots Q (F0 m (pc + 1) ls rest)) : W p l e R s m args below meth c H locs cells slots Q (F0 m pc ls (.int z :: .int i :: .ref (q 7) :: rest)) := by
  subst hi; exact va_iast (f := bm) hx hb hK hP hD hS 7 0 rfl rfl (vp_in_nI hj (by omega)) hdg (by rw [nI_clamp (by omega)]; exact kk)
theorem gX_stepCount (hx : p.tables.exec = Jvm.exec) (hb : c.code = cc) (hts : ∀ w ∈ Ts, w.before args s = true) (hin : ∀ w ∈ wsX00, w ∈ Ts) (hown : s.vm.findClass RX0 = some m.cls) (hK : va_K D vwCl [(cy, .int)] s) (hP : va_P D vwCl (wX cy q tc gT gC nh ns ak ta pl cp kd fa fb bm sx sy) H) (hl : Cond.fieldLink RX0 index "TwoColours" "stepCount" "I" ∈ Ts) (hdg : decode cc pc = .ok (.getfield index, 3)) (kk : W p l e R s m args below meth c H locs cells slots Q (F0 m (pc + 3) ls (.int ns :: rest))) : W p l e R s m args below meth c H locs cells slots Q (F0 m pc ls (.ref (q 0) :: rest)) :=
  va_get (D := D) (ci := 0) (C := RX0) (T := TX0) (N := 15) hx hb hts hin hown hK hP 0 rfl rfl 11 (by decide) (hts _ hl) (fun _ h9 => h9) rfl hdg kk
theorem pX_stepCount {z : Int32} (hx : p.tables.exec = Jvm.exec) (hb : c.code = cc) (hts : ∀ w ∈ Ts, w.before args s = true) (hin : ∀ w ∈ wsX00, w ∈ Ts) (hown : s.vm.findClass RX0 = some m.cls) (hK : va_K D vwCl [(cy, .int)] s) (hP : va_P D vwCl (wX cy q tc gT gC nh ns ak ta pl cp kd fa fb bm sx sy) H) (hD : va_D A (wX cy q tc gT gC nh ns ak ta pl cp kd fa fb bm sx sy)) (hS : va_S A H0 H locs) (hl : Cond.fieldLink RX0 index "TwoColours" "stepCount" "I" ∈ Ts) (hdg : decode cc pc = .ok (.putfield index, 3)) (kk : ∀ (H1 : Heap) (locs1 : List Loc), va_P D vwCl (wX cy q tc gT gC nh z ak ta pl cp kd fa fb bm sx sy) H1 → va_D A (wX cy q tc gT gC nh z ak ta pl cp kd fa fb bm sx sy) → va_S A H0 H1 locs1 → W p l e R s m args below meth c H1 locs1 cells slots Q (F0 m (pc + 3) ls rest)) : W p l e R s m args below meth c H locs cells slots Q (F0 m pc ls (.int z :: .ref (q 0) :: rest)) :=
  va_put (D := D) (ci := 0) (v := .int z) (ty := .int) (C := RX0) (T := TX0) (N := 15) hx hb hts hin tyX0 tyX0_ok nmX0 hown hK hP hD hS 0 rfl rfl 11 (by decide) (hts _ hl) (fun _ h9 => h9) rfl (by decide +kernel) rfl rfl (Nat.le_of_ble_eq_true rfl) hdg kk
theorem gX_stepX (hx : p.tables.exec = Jvm.exec) (hb : c.code = cc) (hts : ∀ w ∈ Ts, w.before args s = true) (hin : ∀ w ∈ wsX00, w ∈ Ts) (hown : s.vm.findClass RX0 = some m.cls) (hK : va_K D vwCl [(cy, .int)] s) (hP : va_P D vwCl (wX cy q tc gT gC nh ns ak ta pl cp kd fa fb bm sx sy) H) (hl : Cond.fieldLink RX0 index "TwoColours" "stepX" "[I" ∈ Ts) (hdg : decode cc pc = .ok (.getfield index, 3)) (kk : W p l e R s m args below meth c H locs cells slots Q (F0 m (pc + 3) ls (.ref (q 8) :: rest))) : W p l e R s m args below meth c H locs cells slots Q (F0 m pc ls (.ref (q 0) :: rest)) :=
  va_get (D := D) (ci := 0) (C := RX0) (T := TX0) (N := 15) hx hb hts hin hown hK hP 0 rfl rfl 12 (by decide) (hts _ hl) (fun _ h9 => h9) rfl hdg kk
theorem ldX_stepX {i : Int32} {j : Nat} (hx : p.tables.exec = Jvm.exec) (hb : c.code = cc) (hK : va_K D vwCl [(cy, .int)] s) (hP : va_P D vwCl (wX cy q tc gT gC nh ns ak ta pl cp kd fa fb bm sx sy) H) (hi : i = nI j) (hj : j < 10) (hdg : decode cc pc = .ok (.iaload, 1)) (kk : W p l e R s m args below meth c H locs cells slots Q (F0 m (pc + 1) ls (.int (sx j) :: rest))) : W p l e R s m args below meth c H locs cells slots Q (F0 m pc ls (.int i :: .ref (q 8) :: rest)) := by
  subst hi; exact va_iald (f := sx) hx hb hK hP 8 0 rfl rfl (vp_in_nI hj (by omega)) hdg (by rw [nI_clamp (by omega)]; exact kk)
theorem stX_stepX {i z : Int32} {j : Nat} (hx : p.tables.exec = Jvm.exec) (hb : c.code = cc) (hK : va_K D vwCl [(cy, .int)] s) (hP : va_P D vwCl (wX cy q tc gT gC nh ns ak ta pl cp kd fa fb bm sx sy) H) (hD : va_D A (wX cy q tc gT gC nh ns ak ta pl cp kd fa fb bm sx sy)) (hS : va_S A H0 H locs) (hi : i = nI j) (hj : j < 10) (hdg : decode cc pc = .ok (.iastore, 1)) (kk : ∀ (H1 : Heap) (locs1 : List Loc), va_P D vwCl (wX cy q tc gT gC nh ns ak ta pl cp kd fa fb bm (upd sx j z) sy) H1 → va_D A (wX cy q tc gT gC nh ns ak ta pl cp kd fa fb bm (upd sx j z) sy) → va_S A H0 H1 locs1 → W p l e R s m args below meth c H1 locs1 cells slots Q (F0 m (pc + 1) ls rest)) : W p l e R s m args below meth c H locs cells slots Q (F0 m pc ls (.int z :: .int i :: .ref (q 8) :: rest)) := by
  subst hi; exact va_iast (f := sx) hx hb hK hP hD hS 8 0 rfl rfl (vp_in_nI hj (by omega)) hdg (by rw [nI_clamp (by omega)]; exact kk)
theorem gX_stepY (hx : p.tables.exec = Jvm.exec) (hb : c.code = cc) (hts : ∀ w ∈ Ts, w.before args s = true) (hin : ∀ w ∈ wsX00, w ∈ Ts) (hown : s.vm.findClass RX0 = some m.cls) (hK : va_K D vwCl [(cy, .int)] s) (hP : va_P D vwCl (wX cy q tc gT gC nh ns ak ta pl cp kd fa fb bm sx sy) H) (hl : Cond.fieldLink RX0 index "TwoColours" "stepY" "[I" ∈ Ts) (hdg : decode cc pc = .ok (.getfield index, 3)) (kk : W p l e R s m args below meth c H locs cells slots Q (F0 m (pc + 3) ls (.ref (q 9) :: rest))) : W p l e R s m args below meth c H locs cells slots Q (F0 m pc ls (.ref (q 0) :: rest)) :=
  va_get (D := D) (ci := 0) (C := RX0) (T := TX0) (N := 15) hx hb hts hin hown hK hP 0 rfl rfl 13 (by decide) (hts _ hl) (fun _ h9 => h9) rfl hdg kk
theorem ldX_stepY {i : Int32} {j : Nat} (hx : p.tables.exec = Jvm.exec) (hb : c.code = cc) (hK : va_K D vwCl [(cy, .int)] s) (hP : va_P D vwCl (wX cy q tc gT gC nh ns ak ta pl cp kd fa fb bm sx sy) H) (hi : i = nI j) (hj : j < 10) (hdg : decode cc pc = .ok (.iaload, 1)) (kk : W p l e R s m args below meth c H locs cells slots Q (F0 m (pc + 1) ls (.int (sy j) :: rest))) : W p l e R s m args below meth c H locs cells slots Q (F0 m pc ls (.int i :: .ref (q 9) :: rest)) := by
  subst hi; exact va_iald (f := sy) hx hb hK hP 9 0 rfl rfl (vp_in_nI hj (by omega)) hdg (by rw [nI_clamp (by omega)]; exact kk)
theorem stX_stepY {i z : Int32} {j : Nat} (hx : p.tables.exec = Jvm.exec) (hb : c.code = cc) (hK : va_K D vwCl [(cy, .int)] s) (hP : va_P D vwCl (wX cy q tc gT gC nh ns ak ta pl cp kd fa fb bm sx sy) H) (hD : va_D A (wX cy q tc gT gC nh ns ak ta pl cp kd fa fb bm sx sy)) (hS : va_S A H0 H locs) (hi : i = nI j) (hj : j < 10) (hdg : decode cc pc = .ok (.iastore, 1)) (kk : ∀ (H1 : Heap) (locs1 : List Loc), va_P D vwCl (wX cy q tc gT gC nh ns ak ta pl cp kd fa fb bm sx (upd sy j z)) H1 → va_D A (wX cy q tc gT gC nh ns ak ta pl cp kd fa fb bm sx (upd sy j z)) → va_S A H0 H1 locs1 → W p l e R s m args below meth c H1 locs1 cells slots Q (F0 m (pc + 1) ls rest)) : W p l e R s m args below meth c H locs cells slots Q (F0 m pc ls (.int z :: .int i :: .ref (q 9) :: rest)) := by
  subst hi; exact va_iast (f := sy) hx hb hK hP hD hS 9 0 rfl rfl (vp_in_nI hj (by omega)) hdg (by rw [nI_clamp (by omega)]; exact kk)
theorem gX_asked (hx : p.tables.exec = Jvm.exec) (hb : c.code = cc) (hts : ∀ w ∈ Ts, w.before args s = true) (hin : ∀ w ∈ wsX00, w ∈ Ts) (hown : s.vm.findClass RX0 = some m.cls) (hK : va_K D vwCl [(cy, .int)] s) (hP : va_P D vwCl (wX cy q tc gT gC nh ns ak ta pl cp kd fa fb bm sx sy) H) (hl : Cond.fieldLink RX0 index "TwoColours" "asked" "J" ∈ Ts) (hdg : decode cc pc = .ok (.getfield index, 3)) (kk : W p l e R s m args below meth c H locs cells slots Q (F0 m (pc + 3) ls (.long ak :: rest))) : W p l e R s m args below meth c H locs cells slots Q (F0 m pc ls (.ref (q 0) :: rest)) :=
  va_get (D := D) (ci := 0) (C := RX0) (T := TX0) (N := 15) hx hb hts hin hown hK hP 0 rfl rfl 14 (by decide) (hts _ hl) (fun _ h9 => h9) rfl hdg kk
theorem pX_asked {z : Int64} (hx : p.tables.exec = Jvm.exec) (hb : c.code = cc) (hts : ∀ w ∈ Ts, w.before args s = true) (hin : ∀ w ∈ wsX00, w ∈ Ts) (hown : s.vm.findClass RX0 = some m.cls) (hK : va_K D vwCl [(cy, .int)] s) (hP : va_P D vwCl (wX cy q tc gT gC nh ns ak ta pl cp kd fa fb bm sx sy) H) (hD : va_D A (wX cy q tc gT gC nh ns ak ta pl cp kd fa fb bm sx sy)) (hS : va_S A H0 H locs) (hl : Cond.fieldLink RX0 index "TwoColours" "asked" "J" ∈ Ts) (hdg : decode cc pc = .ok (.putfield index, 3)) (kk : ∀ (H1 : Heap) (locs1 : List Loc), va_P D vwCl (wX cy q tc gT gC nh ns z ta pl cp kd fa fb bm sx sy) H1 → va_D A (wX cy q tc gT gC nh ns z ta pl cp kd fa fb bm sx sy) → va_S A H0 H1 locs1 → W p l e R s m args below meth c H1 locs1 cells slots Q (F0 m (pc + 3) ls rest)) : W p l e R s m args below meth c H locs cells slots Q (F0 m pc ls (.long z :: .ref (q 0) :: rest)) :=
  va_put (D := D) (ci := 0) (v := .long z) (ty := .long) (C := RX0) (T := TX0) (N := 15) hx hb hts hin tyX0 tyX0_ok nmX0 hown hK hP hD hS 0 rfl rfl 14 (by decide) (hts _ hl) (fun _ h9 => h9) rfl (by decide +kernel) rfl rfl (Nat.le_of_ble_eq_true rfl) hdg kk
end
section
variable {q : Nat → Nat} {tc nh ns ff fm fw : Int32} {ak : Int64} {ta gh kd fa fb sx sy mb co : Nat → Int32} {A : Nat → Prop} {H0 : Heap}
theorem gM_n (hx : p.tables.exec = Jvm.exec) (hb : c.code = cc) (hts : ∀ w ∈ Ts, w.before args s = true) (hin : ∀ w ∈ wsX10, w ∈ Ts) (hown : s.vm.findClass RX1 = some m.cls) (hK : va_K D vwCl [(cy, .int)] s) (hP : va_P D vwCl (wM cy q tc nh ns ff fm fw ak ta gh kd fa fb sx sy mb co) H) (hl : Cond.fieldLink RX1 index "TwoColoursModel" "n" "I" ∈ Ts) (hdg : decode cc pc = .ok (.getfield index, 3)) (kk : W p l e R s m args below meth c H locs cells slots Q (F0 m (pc + 3) ls (.int tc :: rest))) : W p l e R s m args below meth c H locs cells slots Q (F0 m pc ls (.ref (q 0) :: rest)) :=
  va_get (D := D) (ci := 1) (C := RX1) (T := TX1) (N := 16) hx hb hts hin hown hK hP 0 rfl rfl 0 (by decide) (hts _ hl) (fun _ h9 => h9) rfl hdg kk
theorem pM_n {z : Int32} (hx : p.tables.exec = Jvm.exec) (hb : c.code = cc) (hts : ∀ w ∈ Ts, w.before args s = true) (hin : ∀ w ∈ wsX10, w ∈ Ts) (hown : s.vm.findClass RX1 = some m.cls) (hK : va_K D vwCl [(cy, .int)] s) (hP : va_P D vwCl (wM cy q tc nh ns ff fm fw ak ta gh kd fa fb sx sy mb co) H) (hD : va_D A (wM cy q tc nh ns ff fm fw ak ta gh kd fa fb sx sy mb co)) (hS : va_S A H0 H locs) (hl : Cond.fieldLink RX1 index "TwoColoursModel" "n" "I" ∈ Ts) (hdg : decode cc pc = .ok (.putfield index, 3)) (kk : ∀ (H1 : Heap) (locs1 : List Loc), va_P D vwCl (wM cy q z nh ns ff fm fw ak ta gh kd fa fb sx sy mb co) H1 → va_D A (wM cy q z nh ns ff fm fw ak ta gh kd fa fb sx sy mb co) → va_S A H0 H1 locs1 → W p l e R s m args below meth c H1 locs1 cells slots Q (F0 m (pc + 3) ls rest)) : W p l e R s m args below meth c H locs cells slots Q (F0 m pc ls (.int z :: .ref (q 0) :: rest)) :=
  va_put (D := D) (ci := 1) (v := .int z) (ty := .int) (C := RX1) (T := TX1) (N := 16) hx hb hts hin tyX1 tyX1_ok nmX1 hown hK hP hD hS 0 rfl rfl 0 (by decide) (hts _ hl) (fun _ h9 => h9) rfl (by decide +kernel) rfl rfl (Nat.le_of_ble_eq_true rfl) hdg kk
theorem gM_second (hx : p.tables.exec = Jvm.exec) (hb : c.code = cc) (hts : ∀ w ∈ Ts, w.before args s = true) (hin : ∀ w ∈ wsX10, w ∈ Ts) (hown : s.vm.findClass RX1 = some m.cls) (hK : va_K D vwCl [(cy, .int)] s) (hP : va_P D vwCl (wM cy q tc nh ns ff fm fw ak ta gh kd fa fb sx sy mb co) H) (hl : Cond.fieldLink RX1 index "TwoColoursModel" "second" "[I" ∈ Ts) (hdg : decode cc pc = .ok (.getfield index, 3)) (kk : W p l e R s m args below meth c H locs cells slots Q (F0 m (pc + 3) ls (.ref (q 1) :: rest))) : W p l e R s m args below meth c H locs cells slots Q (F0 m pc ls (.ref (q 0) :: rest)) :=
  va_get (D := D) (ci := 1) (C := RX1) (T := TX1) (N := 16) hx hb hts hin hown hK hP 0 rfl rfl 1 (by decide) (hts _ hl) (fun _ h9 => h9) rfl hdg kk
theorem ldM_second {i : Int32} {j : Nat} (hx : p.tables.exec = Jvm.exec) (hb : c.code = cc) (hK : va_K D vwCl [(cy, .int)] s) (hP : va_P D vwCl (wM cy q tc nh ns ff fm fw ak ta gh kd fa fb sx sy mb co) H) (hi : i = nI j) (hj : j < 12) (hdg : decode cc pc = .ok (.iaload, 1)) (kk : W p l e R s m args below meth c H locs cells slots Q (F0 m (pc + 1) ls (.int (ta j) :: rest))) : W p l e R s m args below meth c H locs cells slots Q (F0 m pc ls (.int i :: .ref (q 1) :: rest)) := by
  subst hi; exact va_iald (f := ta) hx hb hK hP 1 0 rfl rfl (vp_in_nI hj (by omega)) hdg (by rw [nI_clamp (by omega)]; exact kk)
theorem stM_second {i z : Int32} {j : Nat} (hx : p.tables.exec = Jvm.exec) (hb : c.code = cc) (hK : va_K D vwCl [(cy, .int)] s) (hP : va_P D vwCl (wM cy q tc nh ns ff fm fw ak ta gh kd fa fb sx sy mb co) H) (hD : va_D A (wM cy q tc nh ns ff fm fw ak ta gh kd fa fb sx sy mb co)) (hS : va_S A H0 H locs) (hi : i = nI j) (hj : j < 12) (hdg : decode cc pc = .ok (.iastore, 1)) (kk : ∀ (H1 : Heap) (locs1 : List Loc), va_P D vwCl (wM cy q tc nh ns ff fm fw ak (upd ta j z) gh kd fa fb sx sy mb co) H1 → va_D A (wM cy q tc nh ns ff fm fw ak (upd ta j z) gh kd fa fb sx sy mb co) → va_S A H0 H1 locs1 → W p l e R s m args below meth c H1 locs1 cells slots Q (F0 m (pc + 1) ls rest)) : W p l e R s m args below meth c H locs cells slots Q (F0 m pc ls (.int z :: .int i :: .ref (q 1) :: rest)) := by
  subst hi; exact va_iast (f := ta) hx hb hK hP hD hS 1 0 rfl rfl (vp_in_nI hj (by omega)) hdg (by rw [nI_clamp (by omega)]; exact kk)
theorem gM_held (hx : p.tables.exec = Jvm.exec) (hb : c.code = cc) (hts : ∀ w ∈ Ts, w.before args s = true) (hin : ∀ w ∈ wsX10, w ∈ Ts) (hown : s.vm.findClass RX1 = some m.cls) (hK : va_K D vwCl [(cy, .int)] s) (hP : va_P D vwCl (wM cy q tc nh ns ff fm fw ak ta gh kd fa fb sx sy mb co) H) (hl : Cond.fieldLink RX1 index "TwoColoursModel" "held" "[I" ∈ Ts) (hdg : decode cc pc = .ok (.getfield index, 3)) (kk : W p l e R s m args below meth c H locs cells slots Q (F0 m (pc + 3) ls (.ref (q 2) :: rest))) : W p l e R s m args below meth c H locs cells slots Q (F0 m pc ls (.ref (q 0) :: rest)) :=
  va_get (D := D) (ci := 1) (C := RX1) (T := TX1) (N := 16) hx hb hts hin hown hK hP 0 rfl rfl 2 (by decide) (hts _ hl) (fun _ h9 => h9) rfl hdg kk
theorem ldM_held {i : Int32} {j : Nat} (hx : p.tables.exec = Jvm.exec) (hb : c.code = cc) (hK : va_K D vwCl [(cy, .int)] s) (hP : va_P D vwCl (wM cy q tc nh ns ff fm fw ak ta gh kd fa fb sx sy mb co) H) (hi : i = nI j) (hj : j < 12) (hdg : decode cc pc = .ok (.iaload, 1)) (kk : W p l e R s m args below meth c H locs cells slots Q (F0 m (pc + 1) ls (.int (gh j) :: rest))) : W p l e R s m args below meth c H locs cells slots Q (F0 m pc ls (.int i :: .ref (q 2) :: rest)) := by
  subst hi; exact va_iald (f := gh) hx hb hK hP 2 0 rfl rfl (vp_in_nI hj (by omega)) hdg (by rw [nI_clamp (by omega)]; exact kk)
theorem stM_held {i z : Int32} {j : Nat} (hx : p.tables.exec = Jvm.exec) (hb : c.code = cc) (hK : va_K D vwCl [(cy, .int)] s) (hP : va_P D vwCl (wM cy q tc nh ns ff fm fw ak ta gh kd fa fb sx sy mb co) H) (hD : va_D A (wM cy q tc nh ns ff fm fw ak ta gh kd fa fb sx sy mb co)) (hS : va_S A H0 H locs) (hi : i = nI j) (hj : j < 12) (hdg : decode cc pc = .ok (.iastore, 1)) (kk : ∀ (H1 : Heap) (locs1 : List Loc), va_P D vwCl (wM cy q tc nh ns ff fm fw ak ta (upd gh j z) kd fa fb sx sy mb co) H1 → va_D A (wM cy q tc nh ns ff fm fw ak ta (upd gh j z) kd fa fb sx sy mb co) → va_S A H0 H1 locs1 → W p l e R s m args below meth c H1 locs1 cells slots Q (F0 m (pc + 1) ls rest)) : W p l e R s m args below meth c H locs cells slots Q (F0 m pc ls (.int z :: .int i :: .ref (q 2) :: rest)) := by
  subst hi; exact va_iast (f := gh) hx hb hK hP hD hS 2 0 rfl rfl (vp_in_nI hj (by omega)) hdg (by rw [nI_clamp (by omega)]; exact kk)
theorem gM_heaps (hx : p.tables.exec = Jvm.exec) (hb : c.code = cc) (hts : ∀ w ∈ Ts, w.before args s = true) (hin : ∀ w ∈ wsX10, w ∈ Ts) (hown : s.vm.findClass RX1 = some m.cls) (hK : va_K D vwCl [(cy, .int)] s) (hP : va_P D vwCl (wM cy q tc nh ns ff fm fw ak ta gh kd fa fb sx sy mb co) H) (hl : Cond.fieldLink RX1 index "TwoColoursModel" "heaps" "I" ∈ Ts) (hdg : decode cc pc = .ok (.getfield index, 3)) (kk : W p l e R s m args below meth c H locs cells slots Q (F0 m (pc + 3) ls (.int nh :: rest))) : W p l e R s m args below meth c H locs cells slots Q (F0 m pc ls (.ref (q 0) :: rest)) :=
  va_get (D := D) (ci := 1) (C := RX1) (T := TX1) (N := 16) hx hb hts hin hown hK hP 0 rfl rfl 3 (by decide) (hts _ hl) (fun _ h9 => h9) rfl hdg kk
theorem pM_heaps {z : Int32} (hx : p.tables.exec = Jvm.exec) (hb : c.code = cc) (hts : ∀ w ∈ Ts, w.before args s = true) (hin : ∀ w ∈ wsX10, w ∈ Ts) (hown : s.vm.findClass RX1 = some m.cls) (hK : va_K D vwCl [(cy, .int)] s) (hP : va_P D vwCl (wM cy q tc nh ns ff fm fw ak ta gh kd fa fb sx sy mb co) H) (hD : va_D A (wM cy q tc nh ns ff fm fw ak ta gh kd fa fb sx sy mb co)) (hS : va_S A H0 H locs) (hl : Cond.fieldLink RX1 index "TwoColoursModel" "heaps" "I" ∈ Ts) (hdg : decode cc pc = .ok (.putfield index, 3)) (kk : ∀ (H1 : Heap) (locs1 : List Loc), va_P D vwCl (wM cy q tc z ns ff fm fw ak ta gh kd fa fb sx sy mb co) H1 → va_D A (wM cy q tc z ns ff fm fw ak ta gh kd fa fb sx sy mb co) → va_S A H0 H1 locs1 → W p l e R s m args below meth c H1 locs1 cells slots Q (F0 m (pc + 3) ls rest)) : W p l e R s m args below meth c H locs cells slots Q (F0 m pc ls (.int z :: .ref (q 0) :: rest)) :=
  va_put (D := D) (ci := 1) (v := .int z) (ty := .int) (C := RX1) (T := TX1) (N := 16) hx hb hts hin tyX1 tyX1_ok nmX1 hown hK hP hD hS 0 rfl rfl 3 (by decide) (hts _ hl) (fun _ h9 => h9) rfl (by decide +kernel) rfl rfl (Nat.le_of_ble_eq_true rfl) hdg kk
theorem gM_kind (hx : p.tables.exec = Jvm.exec) (hb : c.code = cc) (hts : ∀ w ∈ Ts, w.before args s = true) (hin : ∀ w ∈ wsX10, w ∈ Ts) (hown : s.vm.findClass RX1 = some m.cls) (hK : va_K D vwCl [(cy, .int)] s) (hP : va_P D vwCl (wM cy q tc nh ns ff fm fw ak ta gh kd fa fb sx sy mb co) H) (hl : Cond.fieldLink RX1 index "TwoColoursModel" "kind" "[I" ∈ Ts) (hdg : decode cc pc = .ok (.getfield index, 3)) (kk : W p l e R s m args below meth c H locs cells slots Q (F0 m (pc + 3) ls (.ref (q 3) :: rest))) : W p l e R s m args below meth c H locs cells slots Q (F0 m pc ls (.ref (q 0) :: rest)) :=
  va_get (D := D) (ci := 1) (C := RX1) (T := TX1) (N := 16) hx hb hts hin hown hK hP 0 rfl rfl 4 (by decide) (hts _ hl) (fun _ h9 => h9) rfl hdg kk
theorem ldM_kind {i : Int32} {j : Nat} (hx : p.tables.exec = Jvm.exec) (hb : c.code = cc) (hK : va_K D vwCl [(cy, .int)] s) (hP : va_P D vwCl (wM cy q tc nh ns ff fm fw ak ta gh kd fa fb sx sy mb co) H) (hi : i = nI j) (hj : j < 10) (hdg : decode cc pc = .ok (.iaload, 1)) (kk : W p l e R s m args below meth c H locs cells slots Q (F0 m (pc + 1) ls (.int (kd j) :: rest))) : W p l e R s m args below meth c H locs cells slots Q (F0 m pc ls (.int i :: .ref (q 3) :: rest)) := by
  subst hi; exact va_iald (f := kd) hx hb hK hP 3 0 rfl rfl (vp_in_nI hj (by omega)) hdg (by rw [nI_clamp (by omega)]; exact kk)
theorem stM_kind {i z : Int32} {j : Nat} (hx : p.tables.exec = Jvm.exec) (hb : c.code = cc) (hK : va_K D vwCl [(cy, .int)] s) (hP : va_P D vwCl (wM cy q tc nh ns ff fm fw ak ta gh kd fa fb sx sy mb co) H) (hD : va_D A (wM cy q tc nh ns ff fm fw ak ta gh kd fa fb sx sy mb co)) (hS : va_S A H0 H locs) (hi : i = nI j) (hj : j < 10) (hdg : decode cc pc = .ok (.iastore, 1)) (kk : ∀ (H1 : Heap) (locs1 : List Loc), va_P D vwCl (wM cy q tc nh ns ff fm fw ak ta gh (upd kd j z) fa fb sx sy mb co) H1 → va_D A (wM cy q tc nh ns ff fm fw ak ta gh (upd kd j z) fa fb sx sy mb co) → va_S A H0 H1 locs1 → W p l e R s m args below meth c H1 locs1 cells slots Q (F0 m (pc + 1) ls rest)) : W p l e R s m args below meth c H locs cells slots Q (F0 m pc ls (.int z :: .int i :: .ref (q 3) :: rest)) := by
  subst hi; exact va_iast (f := kd) hx hb hK hP hD hS 3 0 rfl rfl (vp_in_nI hj (by omega)) hdg (by rw [nI_clamp (by omega)]; exact kk)
theorem gM_from (hx : p.tables.exec = Jvm.exec) (hb : c.code = cc) (hts : ∀ w ∈ Ts, w.before args s = true) (hin : ∀ w ∈ wsX10, w ∈ Ts) (hown : s.vm.findClass RX1 = some m.cls) (hK : va_K D vwCl [(cy, .int)] s) (hP : va_P D vwCl (wM cy q tc nh ns ff fm fw ak ta gh kd fa fb sx sy mb co) H) (hl : Cond.fieldLink RX1 index "TwoColoursModel" "from" "[I" ∈ Ts) (hdg : decode cc pc = .ok (.getfield index, 3)) (kk : W p l e R s m args below meth c H locs cells slots Q (F0 m (pc + 3) ls (.ref (q 4) :: rest))) : W p l e R s m args below meth c H locs cells slots Q (F0 m pc ls (.ref (q 0) :: rest)) :=
  va_get (D := D) (ci := 1) (C := RX1) (T := TX1) (N := 16) hx hb hts hin hown hK hP 0 rfl rfl 5 (by decide) (hts _ hl) (fun _ h9 => h9) rfl hdg kk
theorem ldM_from {i : Int32} {j : Nat} (hx : p.tables.exec = Jvm.exec) (hb : c.code = cc) (hK : va_K D vwCl [(cy, .int)] s) (hP : va_P D vwCl (wM cy q tc nh ns ff fm fw ak ta gh kd fa fb sx sy mb co) H) (hi : i = nI j) (hj : j < 10) (hdg : decode cc pc = .ok (.iaload, 1)) (kk : W p l e R s m args below meth c H locs cells slots Q (F0 m (pc + 1) ls (.int (fa j) :: rest))) : W p l e R s m args below meth c H locs cells slots Q (F0 m pc ls (.int i :: .ref (q 4) :: rest)) := by
  subst hi; exact va_iald (f := fa) hx hb hK hP 4 0 rfl rfl (vp_in_nI hj (by omega)) hdg (by rw [nI_clamp (by omega)]; exact kk)
theorem stM_from {i z : Int32} {j : Nat} (hx : p.tables.exec = Jvm.exec) (hb : c.code = cc) (hK : va_K D vwCl [(cy, .int)] s) (hP : va_P D vwCl (wM cy q tc nh ns ff fm fw ak ta gh kd fa fb sx sy mb co) H) (hD : va_D A (wM cy q tc nh ns ff fm fw ak ta gh kd fa fb sx sy mb co)) (hS : va_S A H0 H locs) (hi : i = nI j) (hj : j < 10) (hdg : decode cc pc = .ok (.iastore, 1)) (kk : ∀ (H1 : Heap) (locs1 : List Loc), va_P D vwCl (wM cy q tc nh ns ff fm fw ak ta gh kd (upd fa j z) fb sx sy mb co) H1 → va_D A (wM cy q tc nh ns ff fm fw ak ta gh kd (upd fa j z) fb sx sy mb co) → va_S A H0 H1 locs1 → W p l e R s m args below meth c H1 locs1 cells slots Q (F0 m (pc + 1) ls rest)) : W p l e R s m args below meth c H locs cells slots Q (F0 m pc ls (.int z :: .int i :: .ref (q 4) :: rest)) := by
  subst hi; exact va_iast (f := fa) hx hb hK hP hD hS 4 0 rfl rfl (vp_in_nI hj (by omega)) hdg (by rw [nI_clamp (by omega)]; exact kk)
theorem gM_to (hx : p.tables.exec = Jvm.exec) (hb : c.code = cc) (hts : ∀ w ∈ Ts, w.before args s = true) (hin : ∀ w ∈ wsX10, w ∈ Ts) (hown : s.vm.findClass RX1 = some m.cls) (hK : va_K D vwCl [(cy, .int)] s) (hP : va_P D vwCl (wM cy q tc nh ns ff fm fw ak ta gh kd fa fb sx sy mb co) H) (hl : Cond.fieldLink RX1 index "TwoColoursModel" "to" "[I" ∈ Ts) (hdg : decode cc pc = .ok (.getfield index, 3)) (kk : W p l e R s m args below meth c H locs cells slots Q (F0 m (pc + 3) ls (.ref (q 5) :: rest))) : W p l e R s m args below meth c H locs cells slots Q (F0 m pc ls (.ref (q 0) :: rest)) :=
  va_get (D := D) (ci := 1) (C := RX1) (T := TX1) (N := 16) hx hb hts hin hown hK hP 0 rfl rfl 6 (by decide) (hts _ hl) (fun _ h9 => h9) rfl hdg kk
theorem ldM_to {i : Int32} {j : Nat} (hx : p.tables.exec = Jvm.exec) (hb : c.code = cc) (hK : va_K D vwCl [(cy, .int)] s) (hP : va_P D vwCl (wM cy q tc nh ns ff fm fw ak ta gh kd fa fb sx sy mb co) H) (hi : i = nI j) (hj : j < 10) (hdg : decode cc pc = .ok (.iaload, 1)) (kk : W p l e R s m args below meth c H locs cells slots Q (F0 m (pc + 1) ls (.int (fb j) :: rest))) : W p l e R s m args below meth c H locs cells slots Q (F0 m pc ls (.int i :: .ref (q 5) :: rest)) := by
  subst hi; exact va_iald (f := fb) hx hb hK hP 5 0 rfl rfl (vp_in_nI hj (by omega)) hdg (by rw [nI_clamp (by omega)]; exact kk)
theorem stM_to {i z : Int32} {j : Nat} (hx : p.tables.exec = Jvm.exec) (hb : c.code = cc) (hK : va_K D vwCl [(cy, .int)] s) (hP : va_P D vwCl (wM cy q tc nh ns ff fm fw ak ta gh kd fa fb sx sy mb co) H) (hD : va_D A (wM cy q tc nh ns ff fm fw ak ta gh kd fa fb sx sy mb co)) (hS : va_S A H0 H locs) (hi : i = nI j) (hj : j < 10) (hdg : decode cc pc = .ok (.iastore, 1)) (kk : ∀ (H1 : Heap) (locs1 : List Loc), va_P D vwCl (wM cy q tc nh ns ff fm fw ak ta gh kd fa (upd fb j z) sx sy mb co) H1 → va_D A (wM cy q tc nh ns ff fm fw ak ta gh kd fa (upd fb j z) sx sy mb co) → va_S A H0 H1 locs1 → W p l e R s m args below meth c H1 locs1 cells slots Q (F0 m (pc + 1) ls rest)) : W p l e R s m args below meth c H locs cells slots Q (F0 m pc ls (.int z :: .int i :: .ref (q 5) :: rest)) := by
  subst hi; exact va_iast (f := fb) hx hb hK hP hD hS 5 0 rfl rfl (vp_in_nI hj (by omega)) hdg (by rw [nI_clamp (by omega)]; exact kk)
theorem gM_steps (hx : p.tables.exec = Jvm.exec) (hb : c.code = cc) (hts : ∀ w ∈ Ts, w.before args s = true) (hin : ∀ w ∈ wsX10, w ∈ Ts) (hown : s.vm.findClass RX1 = some m.cls) (hK : va_K D vwCl [(cy, .int)] s) (hP : va_P D vwCl (wM cy q tc nh ns ff fm fw ak ta gh kd fa fb sx sy mb co) H) (hl : Cond.fieldLink RX1 index "TwoColoursModel" "steps" "I" ∈ Ts) (hdg : decode cc pc = .ok (.getfield index, 3)) (kk : W p l e R s m args below meth c H locs cells slots Q (F0 m (pc + 3) ls (.int ns :: rest))) : W p l e R s m args below meth c H locs cells slots Q (F0 m pc ls (.ref (q 0) :: rest)) :=
  va_get (D := D) (ci := 1) (C := RX1) (T := TX1) (N := 16) hx hb hts hin hown hK hP 0 rfl rfl 7 (by decide) (hts _ hl) (fun _ h9 => h9) rfl hdg kk
theorem pM_steps {z : Int32} (hx : p.tables.exec = Jvm.exec) (hb : c.code = cc) (hts : ∀ w ∈ Ts, w.before args s = true) (hin : ∀ w ∈ wsX10, w ∈ Ts) (hown : s.vm.findClass RX1 = some m.cls) (hK : va_K D vwCl [(cy, .int)] s) (hP : va_P D vwCl (wM cy q tc nh ns ff fm fw ak ta gh kd fa fb sx sy mb co) H) (hD : va_D A (wM cy q tc nh ns ff fm fw ak ta gh kd fa fb sx sy mb co)) (hS : va_S A H0 H locs) (hl : Cond.fieldLink RX1 index "TwoColoursModel" "steps" "I" ∈ Ts) (hdg : decode cc pc = .ok (.putfield index, 3)) (kk : ∀ (H1 : Heap) (locs1 : List Loc), va_P D vwCl (wM cy q tc nh z ff fm fw ak ta gh kd fa fb sx sy mb co) H1 → va_D A (wM cy q tc nh z ff fm fw ak ta gh kd fa fb sx sy mb co) → va_S A H0 H1 locs1 → W p l e R s m args below meth c H1 locs1 cells slots Q (F0 m (pc + 3) ls rest)) : W p l e R s m args below meth c H locs cells slots Q (F0 m pc ls (.int z :: .ref (q 0) :: rest)) :=
  va_put (D := D) (ci := 1) (v := .int z) (ty := .int) (C := RX1) (T := TX1) (N := 16) hx hb hts hin tyX1 tyX1_ok nmX1 hown hK hP hD hS 0 rfl rfl 7 (by decide) (hts _ hl) (fun _ h9 => h9) rfl (by decide +kernel) rfl rfl (Nat.le_of_ble_eq_true rfl) hdg kk
theorem gM_stepX (hx : p.tables.exec = Jvm.exec) (hb : c.code = cc) (hts : ∀ w ∈ Ts, w.before args s = true) (hin : ∀ w ∈ wsX10, w ∈ Ts) (hown : s.vm.findClass RX1 = some m.cls) (hK : va_K D vwCl [(cy, .int)] s) (hP : va_P D vwCl (wM cy q tc nh ns ff fm fw ak ta gh kd fa fb sx sy mb co) H) (hl : Cond.fieldLink RX1 index "TwoColoursModel" "stepX" "[I" ∈ Ts) (hdg : decode cc pc = .ok (.getfield index, 3)) (kk : W p l e R s m args below meth c H locs cells slots Q (F0 m (pc + 3) ls (.ref (q 6) :: rest))) : W p l e R s m args below meth c H locs cells slots Q (F0 m pc ls (.ref (q 0) :: rest)) :=
  va_get (D := D) (ci := 1) (C := RX1) (T := TX1) (N := 16) hx hb hts hin hown hK hP 0 rfl rfl 8 (by decide) (hts _ hl) (fun _ h9 => h9) rfl hdg kk
theorem ldM_stepX {i : Int32} {j : Nat} (hx : p.tables.exec = Jvm.exec) (hb : c.code = cc) (hK : va_K D vwCl [(cy, .int)] s) (hP : va_P D vwCl (wM cy q tc nh ns ff fm fw ak ta gh kd fa fb sx sy mb co) H) (hi : i = nI j) (hj : j < 10) (hdg : decode cc pc = .ok (.iaload, 1)) (kk : W p l e R s m args below meth c H locs cells slots Q (F0 m (pc + 1) ls (.int (sx j) :: rest))) : W p l e R s m args below meth c H locs cells slots Q (F0 m pc ls (.int i :: .ref (q 6) :: rest)) := by
  subst hi; exact va_iald (f := sx) hx hb hK hP 6 0 rfl rfl (vp_in_nI hj (by omega)) hdg (by rw [nI_clamp (by omega)]; exact kk)
theorem stM_stepX {i z : Int32} {j : Nat} (hx : p.tables.exec = Jvm.exec) (hb : c.code = cc) (hK : va_K D vwCl [(cy, .int)] s) (hP : va_P D vwCl (wM cy q tc nh ns ff fm fw ak ta gh kd fa fb sx sy mb co) H) (hD : va_D A (wM cy q tc nh ns ff fm fw ak ta gh kd fa fb sx sy mb co)) (hS : va_S A H0 H locs) (hi : i = nI j) (hj : j < 10) (hdg : decode cc pc = .ok (.iastore, 1)) (kk : ∀ (H1 : Heap) (locs1 : List Loc), va_P D vwCl (wM cy q tc nh ns ff fm fw ak ta gh kd fa fb (upd sx j z) sy mb co) H1 → va_D A (wM cy q tc nh ns ff fm fw ak ta gh kd fa fb (upd sx j z) sy mb co) → va_S A H0 H1 locs1 → W p l e R s m args below meth c H1 locs1 cells slots Q (F0 m (pc + 1) ls rest)) : W p l e R s m args below meth c H locs cells slots Q (F0 m pc ls (.int z :: .int i :: .ref (q 6) :: rest)) := by
  subst hi; exact va_iast (f := sx) hx hb hK hP hD hS 6 0 rfl rfl (vp_in_nI hj (by omega)) hdg (by rw [nI_clamp (by omega)]; exact kk)
theorem gM_stepY (hx : p.tables.exec = Jvm.exec) (hb : c.code = cc) (hts : ∀ w ∈ Ts, w.before args s = true) (hin : ∀ w ∈ wsX10, w ∈ Ts) (hown : s.vm.findClass RX1 = some m.cls) (hK : va_K D vwCl [(cy, .int)] s) (hP : va_P D vwCl (wM cy q tc nh ns ff fm fw ak ta gh kd fa fb sx sy mb co) H) (hl : Cond.fieldLink RX1 index "TwoColoursModel" "stepY" "[I" ∈ Ts) (hdg : decode cc pc = .ok (.getfield index, 3)) (kk : W p l e R s m args below meth c H locs cells slots Q (F0 m (pc + 3) ls (.ref (q 7) :: rest))) : W p l e R s m args below meth c H locs cells slots Q (F0 m pc ls (.ref (q 0) :: rest)) :=
  va_get (D := D) (ci := 1) (C := RX1) (T := TX1) (N := 16) hx hb hts hin hown hK hP 0 rfl rfl 9 (by decide) (hts _ hl) (fun _ h9 => h9) rfl hdg kk
theorem ldM_stepY {i : Int32} {j : Nat} (hx : p.tables.exec = Jvm.exec) (hb : c.code = cc) (hK : va_K D vwCl [(cy, .int)] s) (hP : va_P D vwCl (wM cy q tc nh ns ff fm fw ak ta gh kd fa fb sx sy mb co) H) (hi : i = nI j) (hj : j < 10) (hdg : decode cc pc = .ok (.iaload, 1)) (kk : W p l e R s m args below meth c H locs cells slots Q (F0 m (pc + 1) ls (.int (sy j) :: rest))) : W p l e R s m args below meth c H locs cells slots Q (F0 m pc ls (.int i :: .ref (q 7) :: rest)) := by
  subst hi; exact va_iald (f := sy) hx hb hK hP 7 0 rfl rfl (vp_in_nI hj (by omega)) hdg (by rw [nI_clamp (by omega)]; exact kk)
theorem stM_stepY {i z : Int32} {j : Nat} (hx : p.tables.exec = Jvm.exec) (hb : c.code = cc) (hK : va_K D vwCl [(cy, .int)] s) (hP : va_P D vwCl (wM cy q tc nh ns ff fm fw ak ta gh kd fa fb sx sy mb co) H) (hD : va_D A (wM cy q tc nh ns ff fm fw ak ta gh kd fa fb sx sy mb co)) (hS : va_S A H0 H locs) (hi : i = nI j) (hj : j < 10) (hdg : decode cc pc = .ok (.iastore, 1)) (kk : ∀ (H1 : Heap) (locs1 : List Loc), va_P D vwCl (wM cy q tc nh ns ff fm fw ak ta gh kd fa fb sx (upd sy j z) mb co) H1 → va_D A (wM cy q tc nh ns ff fm fw ak ta gh kd fa fb sx (upd sy j z) mb co) → va_S A H0 H1 locs1 → W p l e R s m args below meth c H1 locs1 cells slots Q (F0 m (pc + 1) ls rest)) : W p l e R s m args below meth c H locs cells slots Q (F0 m pc ls (.int z :: .int i :: .ref (q 7) :: rest)) := by
  subst hi; exact va_iast (f := sy) hx hb hK hP hD hS 7 0 rfl rfl (vp_in_nI hj (by omega)) hdg (by rw [nI_clamp (by omega)]; exact kk)
theorem gM_trace (hx : p.tables.exec = Jvm.exec) (hb : c.code = cc) (hts : ∀ w ∈ Ts, w.before args s = true) (hin : ∀ w ∈ wsX10, w ∈ Ts) (hown : s.vm.findClass RX1 = some m.cls) (hK : va_K D vwCl [(cy, .int)] s) (hP : va_P D vwCl (wM cy q tc nh ns ff fm fw ak ta gh kd fa fb sx sy mb co) H) (hl : Cond.fieldLink RX1 index "TwoColoursModel" "trace" "J" ∈ Ts) (hdg : decode cc pc = .ok (.getfield index, 3)) (kk : W p l e R s m args below meth c H locs cells slots Q (F0 m (pc + 3) ls (.long ak :: rest))) : W p l e R s m args below meth c H locs cells slots Q (F0 m pc ls (.ref (q 0) :: rest)) :=
  va_get (D := D) (ci := 1) (C := RX1) (T := TX1) (N := 16) hx hb hts hin hown hK hP 0 rfl rfl 10 (by decide) (hts _ hl) (fun _ h9 => h9) rfl hdg kk
theorem pM_trace {z : Int64} (hx : p.tables.exec = Jvm.exec) (hb : c.code = cc) (hts : ∀ w ∈ Ts, w.before args s = true) (hin : ∀ w ∈ wsX10, w ∈ Ts) (hown : s.vm.findClass RX1 = some m.cls) (hK : va_K D vwCl [(cy, .int)] s) (hP : va_P D vwCl (wM cy q tc nh ns ff fm fw ak ta gh kd fa fb sx sy mb co) H) (hD : va_D A (wM cy q tc nh ns ff fm fw ak ta gh kd fa fb sx sy mb co)) (hS : va_S A H0 H locs) (hl : Cond.fieldLink RX1 index "TwoColoursModel" "trace" "J" ∈ Ts) (hdg : decode cc pc = .ok (.putfield index, 3)) (kk : ∀ (H1 : Heap) (locs1 : List Loc), va_P D vwCl (wM cy q tc nh ns ff fm fw z ta gh kd fa fb sx sy mb co) H1 → va_D A (wM cy q tc nh ns ff fm fw z ta gh kd fa fb sx sy mb co) → va_S A H0 H1 locs1 → W p l e R s m args below meth c H1 locs1 cells slots Q (F0 m (pc + 3) ls rest)) : W p l e R s m args below meth c H locs cells slots Q (F0 m pc ls (.long z :: .ref (q 0) :: rest)) :=
  va_put (D := D) (ci := 1) (v := .long z) (ty := .long) (C := RX1) (T := TX1) (N := 16) hx hb hts hin tyX1 tyX1_ok nmX1 hown hK hP hD hS 0 rfl rfl 10 (by decide) (hts _ hl) (fun _ h9 => h9) rfl (by decide +kernel) rfl rfl (Nat.le_of_ble_eq_true rfl) hdg kk
theorem gM_heapBits (hx : p.tables.exec = Jvm.exec) (hb : c.code = cc) (hts : ∀ w ∈ Ts, w.before args s = true) (hin : ∀ w ∈ wsX10, w ∈ Ts) (hown : s.vm.findClass RX1 = some m.cls) (hK : va_K D vwCl [(cy, .int)] s) (hP : va_P D vwCl (wM cy q tc nh ns ff fm fw ak ta gh kd fa fb sx sy mb co) H) (hl : Cond.fieldLink RX1 index "TwoColoursModel" "heapBits" "[I" ∈ Ts) (hdg : decode cc pc = .ok (.getfield index, 3)) (kk : W p l e R s m args below meth c H locs cells slots Q (F0 m (pc + 3) ls (.ref (q 8) :: rest))) : W p l e R s m args below meth c H locs cells slots Q (F0 m pc ls (.ref (q 0) :: rest)) :=
  va_get (D := D) (ci := 1) (C := RX1) (T := TX1) (N := 16) hx hb hts hin hown hK hP 0 rfl rfl 11 (by decide) (hts _ hl) (fun _ h9 => h9) rfl hdg kk
theorem ldM_heapBits {i : Int32} {j : Nat} (hx : p.tables.exec = Jvm.exec) (hb : c.code = cc) (hK : va_K D vwCl [(cy, .int)] s) (hP : va_P D vwCl (wM cy q tc nh ns ff fm fw ak ta gh kd fa fb sx sy mb co) H) (hi : i = nI j) (hj : j < 10) (hdg : decode cc pc = .ok (.iaload, 1)) (kk : W p l e R s m args below meth c H locs cells slots Q (F0 m (pc + 1) ls (.int (mb j) :: rest))) : W p l e R s m args below meth c H locs cells slots Q (F0 m pc ls (.int i :: .ref (q 8) :: rest)) := by
  subst hi; exact va_iald (f := mb) hx hb hK hP 8 0 rfl rfl (vp_in_nI hj (by omega)) hdg (by rw [nI_clamp (by omega)]; exact kk)
theorem stM_heapBits {i z : Int32} {j : Nat} (hx : p.tables.exec = Jvm.exec) (hb : c.code = cc) (hK : va_K D vwCl [(cy, .int)] s) (hP : va_P D vwCl (wM cy q tc nh ns ff fm fw ak ta gh kd fa fb sx sy mb co) H) (hD : va_D A (wM cy q tc nh ns ff fm fw ak ta gh kd fa fb sx sy mb co)) (hS : va_S A H0 H locs) (hi : i = nI j) (hj : j < 10) (hdg : decode cc pc = .ok (.iastore, 1)) (kk : ∀ (H1 : Heap) (locs1 : List Loc), va_P D vwCl (wM cy q tc nh ns ff fm fw ak ta gh kd fa fb sx sy (upd mb j z) co) H1 → va_D A (wM cy q tc nh ns ff fm fw ak ta gh kd fa fb sx sy (upd mb j z) co) → va_S A H0 H1 locs1 → W p l e R s m args below meth c H1 locs1 cells slots Q (F0 m (pc + 1) ls rest)) : W p l e R s m args below meth c H locs cells slots Q (F0 m pc ls (.int z :: .int i :: .ref (q 8) :: rest)) := by
  subst hi; exact va_iast (f := mb) hx hb hK hP hD hS 8 0 rfl rfl (vp_in_nI hj (by omega)) hdg (by rw [nI_clamp (by omega)]; exact kk)
theorem gM_foundFirst (hx : p.tables.exec = Jvm.exec) (hb : c.code = cc) (hts : ∀ w ∈ Ts, w.before args s = true) (hin : ∀ w ∈ wsX10, w ∈ Ts) (hown : s.vm.findClass RX1 = some m.cls) (hK : va_K D vwCl [(cy, .int)] s) (hP : va_P D vwCl (wM cy q tc nh ns ff fm fw ak ta gh kd fa fb sx sy mb co) H) (hl : Cond.fieldLink RX1 index "TwoColoursModel" "foundFirst" "I" ∈ Ts) (hdg : decode cc pc = .ok (.getfield index, 3)) (kk : W p l e R s m args below meth c H locs cells slots Q (F0 m (pc + 3) ls (.int ff :: rest))) : W p l e R s m args below meth c H locs cells slots Q (F0 m pc ls (.ref (q 0) :: rest)) :=
  va_get (D := D) (ci := 1) (C := RX1) (T := TX1) (N := 16) hx hb hts hin hown hK hP 0 rfl rfl 12 (by decide) (hts _ hl) (fun _ h9 => h9) rfl hdg kk
theorem pM_foundFirst {z : Int32} (hx : p.tables.exec = Jvm.exec) (hb : c.code = cc) (hts : ∀ w ∈ Ts, w.before args s = true) (hin : ∀ w ∈ wsX10, w ∈ Ts) (hown : s.vm.findClass RX1 = some m.cls) (hK : va_K D vwCl [(cy, .int)] s) (hP : va_P D vwCl (wM cy q tc nh ns ff fm fw ak ta gh kd fa fb sx sy mb co) H) (hD : va_D A (wM cy q tc nh ns ff fm fw ak ta gh kd fa fb sx sy mb co)) (hS : va_S A H0 H locs) (hl : Cond.fieldLink RX1 index "TwoColoursModel" "foundFirst" "I" ∈ Ts) (hdg : decode cc pc = .ok (.putfield index, 3)) (kk : ∀ (H1 : Heap) (locs1 : List Loc), va_P D vwCl (wM cy q tc nh ns z fm fw ak ta gh kd fa fb sx sy mb co) H1 → va_D A (wM cy q tc nh ns z fm fw ak ta gh kd fa fb sx sy mb co) → va_S A H0 H1 locs1 → W p l e R s m args below meth c H1 locs1 cells slots Q (F0 m (pc + 3) ls rest)) : W p l e R s m args below meth c H locs cells slots Q (F0 m pc ls (.int z :: .ref (q 0) :: rest)) :=
  va_put (D := D) (ci := 1) (v := .int z) (ty := .int) (C := RX1) (T := TX1) (N := 16) hx hb hts hin tyX1 tyX1_ok nmX1 hown hK hP hD hS 0 rfl rfl 12 (by decide) (hts _ hl) (fun _ h9 => h9) rfl (by decide +kernel) rfl rfl (Nat.le_of_ble_eq_true rfl) hdg kk
theorem gM_foundMany (hx : p.tables.exec = Jvm.exec) (hb : c.code = cc) (hts : ∀ w ∈ Ts, w.before args s = true) (hin : ∀ w ∈ wsX10, w ∈ Ts) (hown : s.vm.findClass RX1 = some m.cls) (hK : va_K D vwCl [(cy, .int)] s) (hP : va_P D vwCl (wM cy q tc nh ns ff fm fw ak ta gh kd fa fb sx sy mb co) H) (hl : Cond.fieldLink RX1 index "TwoColoursModel" "foundMany" "I" ∈ Ts) (hdg : decode cc pc = .ok (.getfield index, 3)) (kk : W p l e R s m args below meth c H locs cells slots Q (F0 m (pc + 3) ls (.int fm :: rest))) : W p l e R s m args below meth c H locs cells slots Q (F0 m pc ls (.ref (q 0) :: rest)) :=
  va_get (D := D) (ci := 1) (C := RX1) (T := TX1) (N := 16) hx hb hts hin hown hK hP 0 rfl rfl 13 (by decide) (hts _ hl) (fun _ h9 => h9) rfl hdg kk
theorem pM_foundMany {z : Int32} (hx : p.tables.exec = Jvm.exec) (hb : c.code = cc) (hts : ∀ w ∈ Ts, w.before args s = true) (hin : ∀ w ∈ wsX10, w ∈ Ts) (hown : s.vm.findClass RX1 = some m.cls) (hK : va_K D vwCl [(cy, .int)] s) (hP : va_P D vwCl (wM cy q tc nh ns ff fm fw ak ta gh kd fa fb sx sy mb co) H) (hD : va_D A (wM cy q tc nh ns ff fm fw ak ta gh kd fa fb sx sy mb co)) (hS : va_S A H0 H locs) (hl : Cond.fieldLink RX1 index "TwoColoursModel" "foundMany" "I" ∈ Ts) (hdg : decode cc pc = .ok (.putfield index, 3)) (kk : ∀ (H1 : Heap) (locs1 : List Loc), va_P D vwCl (wM cy q tc nh ns ff z fw ak ta gh kd fa fb sx sy mb co) H1 → va_D A (wM cy q tc nh ns ff z fw ak ta gh kd fa fb sx sy mb co) → va_S A H0 H1 locs1 → W p l e R s m args below meth c H1 locs1 cells slots Q (F0 m (pc + 3) ls rest)) : W p l e R s m args below meth c H locs cells slots Q (F0 m pc ls (.int z :: .ref (q 0) :: rest)) :=
  va_put (D := D) (ci := 1) (v := .int z) (ty := .int) (C := RX1) (T := TX1) (N := 16) hx hb hts hin tyX1 tyX1_ok nmX1 hown hK hP hD hS 0 rfl rfl 13 (by decide) (hts _ hl) (fun _ h9 => h9) rfl (by decide +kernel) rfl rfl (Nat.le_of_ble_eq_true rfl) hdg kk
theorem gM_foundFewest (hx : p.tables.exec = Jvm.exec) (hb : c.code = cc) (hts : ∀ w ∈ Ts, w.before args s = true) (hin : ∀ w ∈ wsX10, w ∈ Ts) (hown : s.vm.findClass RX1 = some m.cls) (hK : va_K D vwCl [(cy, .int)] s) (hP : va_P D vwCl (wM cy q tc nh ns ff fm fw ak ta gh kd fa fb sx sy mb co) H) (hl : Cond.fieldLink RX1 index "TwoColoursModel" "foundFewest" "I" ∈ Ts) (hdg : decode cc pc = .ok (.getfield index, 3)) (kk : W p l e R s m args below meth c H locs cells slots Q (F0 m (pc + 3) ls (.int fw :: rest))) : W p l e R s m args below meth c H locs cells slots Q (F0 m pc ls (.ref (q 0) :: rest)) :=
  va_get (D := D) (ci := 1) (C := RX1) (T := TX1) (N := 16) hx hb hts hin hown hK hP 0 rfl rfl 14 (by decide) (hts _ hl) (fun _ h9 => h9) rfl hdg kk
theorem pM_foundFewest {z : Int32} (hx : p.tables.exec = Jvm.exec) (hb : c.code = cc) (hts : ∀ w ∈ Ts, w.before args s = true) (hin : ∀ w ∈ wsX10, w ∈ Ts) (hown : s.vm.findClass RX1 = some m.cls) (hK : va_K D vwCl [(cy, .int)] s) (hP : va_P D vwCl (wM cy q tc nh ns ff fm fw ak ta gh kd fa fb sx sy mb co) H) (hD : va_D A (wM cy q tc nh ns ff fm fw ak ta gh kd fa fb sx sy mb co)) (hS : va_S A H0 H locs) (hl : Cond.fieldLink RX1 index "TwoColoursModel" "foundFewest" "I" ∈ Ts) (hdg : decode cc pc = .ok (.putfield index, 3)) (kk : ∀ (H1 : Heap) (locs1 : List Loc), va_P D vwCl (wM cy q tc nh ns ff fm z ak ta gh kd fa fb sx sy mb co) H1 → va_D A (wM cy q tc nh ns ff fm z ak ta gh kd fa fb sx sy mb co) → va_S A H0 H1 locs1 → W p l e R s m args below meth c H1 locs1 cells slots Q (F0 m (pc + 3) ls rest)) : W p l e R s m args below meth c H locs cells slots Q (F0 m pc ls (.int z :: .ref (q 0) :: rest)) :=
  va_put (D := D) (ci := 1) (v := .int z) (ty := .int) (C := RX1) (T := TX1) (N := 16) hx hb hts hin tyX1 tyX1_ok nmX1 hown hK hP hD hS 0 rfl rfl 14 (by decide) (hts _ hl) (fun _ h9 => h9) rfl (by decide +kernel) rfl rfl (Nat.le_of_ble_eq_true rfl) hdg kk
theorem gM_colour (hx : p.tables.exec = Jvm.exec) (hb : c.code = cc) (hts : ∀ w ∈ Ts, w.before args s = true) (hin : ∀ w ∈ wsX10, w ∈ Ts) (hown : s.vm.findClass RX1 = some m.cls) (hK : va_K D vwCl [(cy, .int)] s) (hP : va_P D vwCl (wM cy q tc nh ns ff fm fw ak ta gh kd fa fb sx sy mb co) H) (hl : Cond.fieldLink RX1 index "TwoColoursModel" "colour" "[I" ∈ Ts) (hdg : decode cc pc = .ok (.getfield index, 3)) (kk : W p l e R s m args below meth c H locs cells slots Q (F0 m (pc + 3) ls (.ref (q 9) :: rest))) : W p l e R s m args below meth c H locs cells slots Q (F0 m pc ls (.ref (q 0) :: rest)) :=
  va_get (D := D) (ci := 1) (C := RX1) (T := TX1) (N := 16) hx hb hts hin hown hK hP 0 rfl rfl 15 (by decide) (hts _ hl) (fun _ h9 => h9) rfl hdg kk
theorem ldM_colour {i : Int32} {j : Nat} (hx : p.tables.exec = Jvm.exec) (hb : c.code = cc) (hK : va_K D vwCl [(cy, .int)] s) (hP : va_P D vwCl (wM cy q tc nh ns ff fm fw ak ta gh kd fa fb sx sy mb co) H) (hi : i = nI j) (hj : j < 12) (hdg : decode cc pc = .ok (.iaload, 1)) (kk : W p l e R s m args below meth c H locs cells slots Q (F0 m (pc + 1) ls (.int (co j) :: rest))) : W p l e R s m args below meth c H locs cells slots Q (F0 m pc ls (.int i :: .ref (q 9) :: rest)) := by
  subst hi; exact va_iald (f := co) hx hb hK hP 9 0 rfl rfl (vp_in_nI hj (by omega)) hdg (by rw [nI_clamp (by omega)]; exact kk)
theorem stM_colour {i z : Int32} {j : Nat} (hx : p.tables.exec = Jvm.exec) (hb : c.code = cc) (hK : va_K D vwCl [(cy, .int)] s) (hP : va_P D vwCl (wM cy q tc nh ns ff fm fw ak ta gh kd fa fb sx sy mb co) H) (hD : va_D A (wM cy q tc nh ns ff fm fw ak ta gh kd fa fb sx sy mb co)) (hS : va_S A H0 H locs) (hi : i = nI j) (hj : j < 12) (hdg : decode cc pc = .ok (.iastore, 1)) (kk : ∀ (H1 : Heap) (locs1 : List Loc), va_P D vwCl (wM cy q tc nh ns ff fm fw ak ta gh kd fa fb sx sy mb (upd co j z)) H1 → va_D A (wM cy q tc nh ns ff fm fw ak ta gh kd fa fb sx sy mb (upd co j z)) → va_S A H0 H1 locs1 → W p l e R s m args below meth c H1 locs1 cells slots Q (F0 m (pc + 1) ls rest)) : W p l e R s m args below meth c H locs cells slots Q (F0 m pc ls (.int z :: .int i :: .ref (q 9) :: rest)) := by
  subst hi; exact va_iast (f := co) hx hb hK hP hD hS 9 0 rfl rfl (vp_in_nI hj (by omega)) hdg (by rw [nI_clamp (by omega)]; exact kk)
end
end
end
section
/-! what the methods answer, as functions -/
abbrev ix (i : Int32) : Nat := i.toNatClampNeg
theorem ix_nI {j : Nat} (h : j < 2 ^ 31) : ix (nI j) = j := nI_clamp h
/-- a number that is no less than 0 and below nI n -/
theorem inN {i : Int32} {n : Nat} (h : 0 ≤ i ∧ i < nI n) (hn : n < 2 ^ 31) : ∃ j : Nat, j < n ∧ i = nI j := by
  obtain ⟨j, hj, e⟩ := nI_of (x := i) (Int32.not_lt.mpr h.1)
  refine ⟨j, ?_, e⟩
  have h2 := h.2
  rw [e] at h2
  exact (nI_ltI hj hn).mp h2
theorem nIin {j n : Nat} (h : j < n) (hn : n < 2 ^ 31) : 0 ≤ nI j ∧ nI j < nI n := ⟨nI_pos' (by omega), nI_lt h hn⟩
abbrev absI (x : Int32) : Int32 := if 0 ≤ x then x else 0 - x
abbrev maxI (x y : Int32) : Int32 := if x < y then y else x
abbrev minI (x y : Int32) : Int32 := if y < x then y else x
def bitI (b t : Int32) : Int32 := (b >>> (t &&& 31)) &&& 1
def trI (kd : Int32) : Int32 := if kd = 1 then 10 else if kd = 2 then 110 else if kd = 3 then 1000 else 1
theorem shl1 : ∀ n, n < 31 → (1 : Int32) <<< (nI n &&& 31) = nI (2 ^ n) := by decide +kernel
theorem p2_le {n : Nat} (h : n ≤ 12) : 2 ^ n ≤ 4096 := Nat.pow_le_pow_right (by decide) h
theorem p2_pos (n : Nat) : 1 ≤ 2 ^ n := Nat.one_le_two_pow
def belX (pl : Nat → Int32) (t : Nat) (kd a b : Int32) : Bool :=
  if kd = 1 then decide (a ≤ nI t ∧ nI t ≤ b) else if kd = 2 then decide (a ≤ pl t ∧ pl t ≤ b)
  else if kd = 3 then decide (a ≤ nI t ∧ 0 < b ∧ (nI t - a) - (nI t - a) / b * b = 0) else decide (bitI a (nI t) = 1)
def setF (P : Nat → Bool) : Nat → Int32
  | 0 => 0
  | k + 1 => if P k = true then setF P k ||| ((1 : Int32) <<< (nI k &&& 31)) else setF P k
theorem setF_t {P : Nat → Bool} {k : Nat} (h : P k = true) : setF P (k + 1) = setF P k ||| ((1 : Int32) <<< (nI k &&& 31)) := by rw [setF, if_pos h]
theorem setF_f {P : Nat → Bool} {k : Nat} (h : ¬ P k = true) : setF P (k + 1) = setF P k := by rw [setF, if_neg h]
def canX (N : Nat) (kd a b : Int32) : Bool :=
  if kd = 0 then decide (0 ≤ a ∧ a < nI (2 ^ N)) else if kd = 1 ∨ kd = 2 then decide ((0 ≤ a ∧ a < nI N) ∧ (0 ≤ b ∧ b < nI N) ∧ a ≤ b)
  else if kd = 3 then decide ((0 ≤ a ∧ a < nI N) ∧ 1 ≤ b ∧ b ≤ 12) else false
def bcA (x : Int32) : Int32 := x - (((x.toUInt32 >>> ((1 : Int32).toUInt32 &&& Int32.toUInt32 31)).toInt32) &&& 1431655765)
def bcB (x : Int32) : Int32 := (x &&& 858993459) + (((x.toUInt32 >>> ((2 : Int32).toUInt32 &&& Int32.toUInt32 31)).toInt32) &&& 858993459)
def bcC (x : Int32) : Int32 := (x + (x.toUInt32 >>> ((4 : Int32).toUInt32 &&& Int32.toUInt32 31)).toInt32) &&& 252645135
def bcD (x : Int32) : Int32 := x + (x.toUInt32 >>> ((8 : Int32).toUInt32 &&& Int32.toUInt32 31)).toInt32
def bcE (x : Int32) : Int32 := x + (x.toUInt32 >>> ((16 : Int32).toUInt32 &&& Int32.toUInt32 31)).toInt32
def bcI (x : Int32) : Int32 := bcE (bcD (bcC (bcB (bcA x)))) &&& 63
def leanI (b c : Int32) : Int32 := 2 * bcI (b &&& c) - bcI b
def woF (bm : Nat → Int32) (c : Int32) : Nat → Int32
  | 0 => 0
  | k + 1 => maxI (woF bm c k) (absI (leanI (bm k) c))
def sqF (bm : Nat → Int32) (c : Int32) : Nat → Int32
  | 0 => 0
  | k + 1 => sqF bm c k + absI (leanI (bm k) c) * absI (leanI (bm k) c)
def tmF (bm : Nat → Int32) (t : Int32) : Nat → Int32
  | 0 => 0
  | k + 1 => tmF bm t k + bitI (bm k) t
def tiF (bm : Nat → Int32) (K : Nat) : Nat → Int32
  | 0 => 0
  | k + 1 => maxI (tiF bm K k) (tmF bm (nI k) K)
/-- the first of b, b + 1 .. that is ok and has the least w (b itself is taken as ok) -/
def amF (w : Nat → Int32) (ok : Nat → Bool) (b : Nat) : Nat → Nat
  | 0 => b
  | j + 1 => if ok (b + 1 + j) = true ∧ w (b + 1 + j) < w (amF w ok b j) then b + 1 + j else amF w ok b j
theorem amF_t {w : Nat → Int32} {ok : Nat → Bool} {b j : Nat} (h1 : ok (b + 1 + j) = true) (h2 : w (b + 1 + j) < w (amF w ok b j)) : amF w ok b (j + 1) = b + 1 + j := by rw [amF, if_pos ⟨h1, h2⟩]
theorem amF_n {w : Nat → Int32} {ok : Nat → Bool} {b j : Nat} (h1 : ¬ ok (b + 1 + j) = true) : amF w ok b (j + 1) = amF w ok b j := by rw [amF, if_neg (fun h => h1 h.1)]
theorem amF_f {w : Nat → Int32} {ok : Nat → Bool} {b j : Nat} (h2 : ¬ w (b + 1 + j) < w (amF w ok b j)) : amF w ok b (j + 1) = amF w ok b j := by rw [amF, if_neg (fun h => h2 h.2)]
theorem amF_le (w : Nat → Int32) (ok : Nat → Bool) (b j : Nat) : amF w ok b j ≤ b + j := by
  induction j with
  | zero => exact Nat.le_refl _
  | succ j ih => rw [amF]; split <;> omega
def okX (gT gC : Int32) (n : Nat) : Bool := decide (nI n &&& gT = gC)
def flX (bm : Nat → Int32) (K : Nat) (gT : Int32) (C N : Nat) : Nat := amF (fun n => woF bm (nI n) K) (okX gT (nI C)) C (2 ^ N - (C + 1))
theorem flX_lt {bm : Nat → Int32} {K : Nat} {gT : Int32} {C N : Nat} (h : C < 2 ^ N) : flX bm K gT C N < 2 ^ N := by
  have := amF_le (fun n => woF bm (nI n) K) (okX gT (nI C)) C (2 ^ N - (C + 1))
  unfold flX; omega
def cnF (P : Nat → Bool) (b : Nat) : Nat → Nat
  | 0 => 0
  | j + 1 => if P (b + j) = true then cnF P b j + 1 else cnF P b j
theorem cnF_t {P : Nat → Bool} {b j : Nat} (h : P (b + j) = true) : cnF P b (j + 1) = cnF P b j + 1 := by rw [cnF, if_pos h]
theorem cnF_f {P : Nat → Bool} {b j : Nat} (h : ¬ P (b + j) = true) : cnF P b (j + 1) = cnF P b j := by rw [cnF, if_neg h]
def maX (bm : Nat → Int32) (K : Nat) (gT gC v : Int32) (n : Nat) : Bool := okX gT gC n && decide (woF bm (nI n) K = v)
def mnF (w : Nat → Int32) (ok : Nat → Bool) (b : Nat) : Nat → Int32
  | 0 => w b
  | j + 1 => if ok (b + 1 + j) = true then minI (mnF w ok b j) (w (b + 1 + j)) else mnF w ok b j
theorem mnF_t {w : Nat → Int32} {ok : Nat → Bool} {b j : Nat} (h : ok (b + 1 + j) = true) : mnF w ok b (j + 1) = minI (mnF w ok b j) (w (b + 1 + j)) := by rw [mnF, if_pos h]
theorem mnF_f {w : Nat → Int32} {ok : Nat → Bool} {b j : Nat} (h : ¬ ok (b + 1 + j) = true) : mnF w ok b (j + 1) = mnF w ok b j := by rw [mnF, if_neg h]
def tuF : Nat → Int32
  | 0 => 0
  | j + 1 => tuF j ||| ((1 : Int32) <<< (nI (1 + 2 * j) &&& 31))
def cmF (bm : Nat → Int32) (t : Nat) (d : Int32) : Nat → Int32
  | 0 => 0
  | k + 1 => if bitI (bm k) (nI t) = 1 then cmF bm t d k + leanI (bm k &&& ((1 : Int32) <<< (nI t &&& 31) - 1)) d else cmF bm t d k
theorem cmF_t {bm : Nat → Int32} {t k : Nat} {d : Int32} (h : bitI (bm k) (nI t) = 1) : cmF bm t d (k + 1) = cmF bm t d k + leanI (bm k &&& ((1 : Int32) <<< (nI t &&& 31) - 1)) d := by rw [cmF, if_pos h]
theorem cmF_f {bm : Nat → Int32} {t k : Nat} {d : Int32} (h : ¬ bitI (bm k) (nI t) = 1) : cmF bm t d (k + 1) = cmF bm t d k := by rw [cmF, if_neg h]
def ccX (bm : Nat → Int32) (K : Nat) (gT gC : Int32) (t : Nat) (d : Int32) : Int32 := if bitI gT (nI t) = 1 then bitI gC (nI t) else if cmF bm t d K < 0 then 1 else 0
def coF (bm : Nat → Int32) (K : Nat) (gT gC : Int32) : Nat → Int32
  | 0 => 0
  | j + 1 => coF bm K gT gC j ||| (ccX bm K gT gC j (coF bm K gT gC j) <<< (nI j &&& 31))
-- steps
def sgI (sg : Int32) (k : Nat) : Int32 := if bitI sg (nI k) = 0 then 1 else -1
def gsz (x y : Int32) : Int32 := maxI (absI x) (absI y)
def stx (f : Nat → Int32) (sg : Int32) : Nat → Int32
  | 0 => 0
  | k + 1 => stx f sg k + sgI sg k * f k
def stm (sx sy : Nat → Int32) (sg : Int32) : Nat → Int32
  | 0 => 0
  | k + 1 => maxI (stm sx sy sg k) (gsz (stx sx sg k + sgI sg k * sx k) (stx sy sg k + sgI sg k * sy k))
def nef (sx sy : Nat → Int32) : Nat → Int32 × Int32 × Int32
  | 0 => (0, 0, 0)
  | k + 1 => if gsz ((nef sx sy k).1 - sx k) ((nef sx sy k).2.1 - sy k) < gsz ((nef sx sy k).1 + sx k) ((nef sx sy k).2.1 + sy k)
    then ((nef sx sy k).1 + -1 * sx k, (nef sx sy k).2.1 + -1 * sy k, (nef sx sy k).2.2 ||| ((1 : Int32) <<< (nI k &&& 31)))
    else ((nef sx sy k).1 + 1 * sx k, (nef sx sy k).2.1 + 1 * sy k, (nef sx sy k).2.2)
theorem nef_t {sx sy : Nat → Int32} {k : Nat} (h : gsz ((nef sx sy k).1 - sx k) ((nef sx sy k).2.1 - sy k) < gsz ((nef sx sy k).1 + sx k) ((nef sx sy k).2.1 + sy k)) : nef sx sy (k + 1) = ((nef sx sy k).1 + -1 * sx k, (nef sx sy k).2.1 + -1 * sy k, (nef sx sy k).2.2 ||| ((1 : Int32) <<< (nI k &&& 31))) := by rw [nef, if_pos h]
theorem nef_f {sx sy : Nat → Int32} {k : Nat} (h : ¬ gsz ((nef sx sy k).1 - sx k) ((nef sx sy k).2.1 - sy k) < gsz ((nef sx sy k).1 + sx k) ((nef sx sy k).2.1 + sy k)) : nef sx sy (k + 1) = ((nef sx sy k).1 + 1 * sx k, (nef sx sy k).2.1 + 1 * sy k, (nef sx sy k).2.2) := by rw [nef, if_neg h]
def beS (sx sy : Nat → Int32) (S : Nat) : Nat := amF (fun n => stm sx sy (nI n) S) (fun _ => true) 0 (2 ^ S - 1)
theorem beS_lt {sx sy : Nat → Int32} {S : Nat} : beS sx sy S < 2 ^ S := by
  have h := amF_le (fun n => stm sx sy (nI n) S) (fun _ => true) 0 (2 ^ S - 1)
  have := p2_pos S
  unfold beS; omega
theorem xor1 : ∀ t, t < 16 → nI t ^^^ 1 = nI (t ^^^ 1) := by decide +kernel
theorem xor1_lt : ∀ t, t < 12 → t ^^^ 1 < 12 := by decide
section
variable {p : Program} {l : Launch} {e : Env} {R : Room} {s : State} {m : MethodId} {args : Array Value} {below : List Frame} {meth : Method} {c : Code} {H : Heap} {locs : List Loc} {cells slots pc : Nat} {Q : State → Prop} {ls : Array Slot} {rest : List Value}
theorem tpI {x y : Int32} (h : x = y) (k : W p l e R s m args below meth c H locs cells slots Q (F0 m pc ls (.int y :: rest))) : W p l e R s m args below meth c H locs cells slots Q (F0 m pc ls (.int x :: rest)) := h ▸ k
end
end
section
theorem hdX0_isThing : yX0_isThing.cls = RX0 ∧ yX0_isThing.cls ≠ "java/lang/invoke/MethodHandle" ∧ yX0_isThing.cls ≠ "java/lang/invoke/VarHandle" ∧ (parseMethodDescriptor yX0_isThing.desc).map (fun d => d.parameters.length) = some 1 := by decide +kernel
set_option maxHeartbeats 4000000 in
set_option maxRecDepth 100000 in
theorem kX0_isThing {l : Launch} {D : va_G} {cy : ClassId} {H : Heap} {q : Nat → Nat} {gT gC : Int32} {ak : Int64} {ta pl cp kd fa fb bm sx sy : Nat → Int32} {N K S : Nat}  (hP : va_P D vwCl (wX cy q (nI N) gT gC (nI K) (nI S) ak ta pl cp kd fa fb bm sx sy) H) (k : Int32)  : Met l yX0_isThing wsX0_isThing { frames := 0, cells := 0, slots := 0, locals := 0 } (pcK D cy H [.ref (q 0), .int k]) (QcRead (b2 (0 ≤ k ∧ k < nI N))) 0 0 (fun _ => False) := by
  refine mV 2 (by decide) rfl (Nat.le_of_ble_eq_true rfl) ?_
  intro p e s m below meth c hx hb hml hr hlk hts hown hnm hK hH ls hl
  have hC := (⟨hx, hb, hml, hown, hts⟩ : CallFix p m c cX0_isThing 2 s _ wsX0_isThing RX0)
  have hin : ∀ w ∈ wsX00, w ∈ wsX0_isThing := by decide +kernel
  have L7 : Cond.fieldLink RX0 7 "TwoColours" "thingCount" "I" ∈ wsX0_isThing := by decide +kernel
  have hl : lv_has ls 2 [(0, .ref (q 0)), (1, .int (k))] := hl
  refine lv_iload_n hx hb dX0_isThing_0 rfl (lv_at hl 1 rfl) ?_
  refine lv_if_lt (tgt := 16) hx hb dX0_isThing_1 (by decide) (fun cz1 => ?_) (fun cz1 => ?_)
  · refine lv_iconst (v := 0) hx hb dX0_isThing_16 (by decide) ?_
    exact rZ hx hb hr hlk hH dX0_isThing_17 rfl (b2_f (by clear hl hC hin hK hP hts hown hnm hx hb hr hlk hml; first | (simp_all [Int32.not_lt, Int32.not_le]; done) | grind))
  · refine lv_iload_n hx hb dX0_isThing_4 rfl (lv_at hl 1 rfl) ?_
    refine lv_aload_n hx hb dX0_isThing_5 rfl (lv_at hl 0 rfl) ?_
    refine gX_thingCount hx hb hts hin hown hK hP L7 dX0_isThing_6 ?_
    refine lv_icmp_ge (tgt := 16) hx hb dX0_isThing_9 (by decide) (fun cz2 => ?_) (fun cz2 => ?_)
    · refine lv_iconst (v := 0) hx hb dX0_isThing_16 (by decide) ?_
      exact rZ hx hb hr hlk hH dX0_isThing_17 rfl (b2_f (by clear hl hC hin hK hP hts hown hnm hx hb hr hlk hml; first | (simp_all [Int32.not_lt, Int32.not_le]; done) | grind))
    · refine lv_iconst (v := 1) hx hb dX0_isThing_12 (by decide) ?_
      refine lv_goto (tgt := 17) hx hb dX0_isThing_13 (by decide) ?_
      exact rZ hx hb hr hlk hH dX0_isThing_17 rfl (b2_t (by clear hl hC hin hK hP hts hown hnm hx hb hr hlk hml; first | (simp_all [Int32.not_lt, Int32.not_le]; done) | grind))

theorem hdX0_isHeap : yX0_isHeap.cls = RX0 ∧ yX0_isHeap.cls ≠ "java/lang/invoke/MethodHandle" ∧ yX0_isHeap.cls ≠ "java/lang/invoke/VarHandle" ∧ (parseMethodDescriptor yX0_isHeap.desc).map (fun d => d.parameters.length) = some 1 := by decide +kernel
set_option maxHeartbeats 4000000 in
set_option maxRecDepth 100000 in
theorem kX0_isHeap {l : Launch} {D : va_G} {cy : ClassId} {H : Heap} {q : Nat → Nat} {gT gC : Int32} {ak : Int64} {ta pl cp kd fa fb bm sx sy : Nat → Int32} {N K S : Nat}  (hP : va_P D vwCl (wX cy q (nI N) gT gC (nI K) (nI S) ak ta pl cp kd fa fb bm sx sy) H) (k : Int32)  : Met l yX0_isHeap wsX0_isHeap { frames := 0, cells := 0, slots := 0, locals := 0 } (pcK D cy H [.ref (q 0), .int k]) (QcRead (b2 (0 ≤ k ∧ k < nI K))) 0 0 (fun _ => False) := by
  refine mV 2 (by decide) rfl (Nat.le_of_ble_eq_true rfl) ?_
  intro p e s m below meth c hx hb hml hr hlk hts hown hnm hK hH ls hl
  have hC := (⟨hx, hb, hml, hown, hts⟩ : CallFix p m c cX0_isHeap 2 s _ wsX0_isHeap RX0)
  have hin : ∀ w ∈ wsX00, w ∈ wsX0_isHeap := by decide +kernel
  have L29 : Cond.fieldLink RX0 29 "TwoColours" "heapCount" "I" ∈ wsX0_isHeap := by decide +kernel
  have hl : lv_has ls 2 [(0, .ref (q 0)), (1, .int (k))] := hl
  refine lv_iload_n hx hb dX0_isHeap_0 rfl (lv_at hl 1 rfl) ?_
  refine lv_if_lt (tgt := 16) hx hb dX0_isHeap_1 (by decide) (fun cz1 => ?_) (fun cz1 => ?_)
  · refine lv_iconst (v := 0) hx hb dX0_isHeap_16 (by decide) ?_
    exact rZ hx hb hr hlk hH dX0_isHeap_17 rfl (b2_f (by clear hl hC hin hK hP hts hown hnm hx hb hr hlk hml; first | (simp_all [Int32.not_lt, Int32.not_le]; done) | grind))
  · refine lv_iload_n hx hb dX0_isHeap_4 rfl (lv_at hl 1 rfl) ?_
    refine lv_aload_n hx hb dX0_isHeap_5 rfl (lv_at hl 0 rfl) ?_
    refine gX_heapCount hx hb hts hin hown hK hP L29 dX0_isHeap_6 ?_
    refine lv_icmp_ge (tgt := 16) hx hb dX0_isHeap_9 (by decide) (fun cz2 => ?_) (fun cz2 => ?_)
    · refine lv_iconst (v := 0) hx hb dX0_isHeap_16 (by decide) ?_
      exact rZ hx hb hr hlk hH dX0_isHeap_17 rfl (b2_f (by clear hl hC hin hK hP hts hown hnm hx hb hr hlk hml; first | (simp_all [Int32.not_lt, Int32.not_le]; done) | grind))
    · refine lv_iconst (v := 1) hx hb dX0_isHeap_12 (by decide) ?_
      refine lv_goto (tgt := 17) hx hb dX0_isHeap_13 (by decide) ?_
      exact rZ hx hb hr hlk hH dX0_isHeap_17 rfl (b2_t (by clear hl hC hin hK hP hts hown hnm hx hb hr hlk hml; first | (simp_all [Int32.not_lt, Int32.not_le]; done) | grind))

set_option maxHeartbeats 4000000 in
set_option maxRecDepth 100000 in
theorem kX0_bitOf {l : Launch}  (b : Int32) (t : Int32)  : Met l yX0_bitOf wsX0_bitOf { frames := 0, cells := 0, slots := 0, locals := 0 } (fun v _ => v = ([.int b, .int t] : List Value).toArray) (QcRead (bitI b t)) 0 0 (fun _ => False) := by
  refine mS 2 (by decide) rfl (Nat.le_of_ble_eq_true rfl) ?_
  intro p e s m below meth c hx hb hml hr hlk hts hown ls hl
  have hC := (⟨hx, hb, hml, hown, hts⟩ : CallFix p m c cX0_bitOf 2 s _ wsX0_bitOf RX0)
  have hl : lv_has ls 2 [(0, .int (b)), (1, .int (t))] := hl
  refine lv_iload_n hx hb dX0_bitOf_0 rfl (lv_at hl 0 rfl) ?_
  refine lv_iload_n hx hb dX0_bitOf_1 rfl (lv_at hl 1 rfl) ?_
  refine lv_ishr hx hb dX0_bitOf_2 ?_
  refine lv_iconst (v := 1) hx hb dX0_bitOf_3 (by decide) ?_
  refine lv_iand hx hb dX0_bitOf_4 ?_
  exact rI hx hb hr hlk rfl dX0_bitOf_5 rfl

theorem hdX0_isHeld : yX0_isHeld.cls = RX0 ∧ yX0_isHeld.cls ≠ "java/lang/invoke/MethodHandle" ∧ yX0_isHeld.cls ≠ "java/lang/invoke/VarHandle" ∧ (parseMethodDescriptor yX0_isHeld.desc).map (fun d => d.parameters.length) = some 1 := by decide +kernel
set_option maxHeartbeats 4000000 in
set_option maxRecDepth 100000 in
theorem kX0_isHeld {l : Launch} {D : va_G} {cy : ClassId} {H : Heap} {q : Nat → Nat} {gT gC : Int32} {ak : Int64} {ta pl cp kd fa fb bm sx sy : Nat → Int32} {N K S : Nat}  (hP : va_P D vwCl (wX cy q (nI N) gT gC (nI K) (nI S) ak ta pl cp kd fa fb bm sx sy) H) (t : Int32)  : Met l yX0_isHeld wsX0_isHeld { frames := 1, cells := 0, slots := 0, locals := 21 } (pcK D cy H [.ref (q 0), .int t]) (QcRead (b2 (bitI gT t = 1))) 0 0 (fun _ => False) := by
  refine mV 2 (by decide) rfl (Nat.le_of_ble_eq_true rfl) ?_
  intro p e s m below meth c hx hb hml hr hlk hts hown hnm hK hH ls hl
  have hC := (⟨hx, hb, hml, hown, hts⟩ : CallFix p m c cX0_isHeld 2 s _ wsX0_isHeld RX0)
  have hin : ∀ w ∈ wsX00, w ∈ wsX0_isHeld := by decide +kernel
  have L20 : Cond.fieldLink RX0 20 "TwoColours" "heldThings" "I" ∈ wsX0_isHeld := by decide +kernel
  have hl : lv_has ls 2 [(0, .ref (q 0)), (1, .int (t))] := hl
  refine lv_aload_n hx hb dX0_isHeld_0 rfl (lv_at hl 0 rfl) ?_
  refine gX_heldThings hx hb hts hin hown hK hP L20 dX0_isHeld_1 ?_
  refine lv_iload_n hx hb dX0_isHeld_4 rfl (lv_at hl 1 rfl) ?_
  refine cS (As := [.int (gT), .int (t)]) hC (kX0_bitOf gT t ) [] (va_cwS 2 hts gX0_isHeld_X0_bitOf rfl rfl rfl (by decide +kernel) ⟨Nat.le_of_ble_eq_true rfl, Nat.le_of_ble_eq_true rfl⟩) rfl hl.1 rfl (Nat.le_of_ble_eq_true rfl) dX0_isHeld_5 ⟨Nat.zero_le _, Nat.zero_le _⟩ ?_
  refine lv_iconst (v := 1) hx hb dX0_isHeld_8 (by decide) ?_
  refine lv_icmp_ne (tgt := 16) hx hb dX0_isHeld_9 (by decide) (fun cz1 => ?_) (fun cz1 => ?_)
  · refine lv_iconst (v := 0) hx hb dX0_isHeld_16 (by decide) ?_
    exact rZ hx hb hr hlk hH dX0_isHeld_17 rfl (b2_f (by clear hl hC hin hK hP hts hown hnm hx hb hr hlk hml; first | (simp_all [Int32.not_lt, Int32.not_le]; done) | grind))
  · refine lv_iconst (v := 1) hx hb dX0_isHeld_12 (by decide) ?_
    refine lv_goto (tgt := 17) hx hb dX0_isHeld_13 (by decide) ?_
    exact rZ hx hb hr hlk hH dX0_isHeld_17 rfl (b2_t (by clear hl hC hin hK hP hts hown hnm hx hb hr hlk hml; first | (simp_all [Int32.not_lt, Int32.not_le]; done) | grind))

set_option maxHeartbeats 4000000 in
set_option maxRecDepth 100000 in
theorem kX0_isWithin {l : Launch}  (z : Int32) (a : Int32) (b : Int32)  : Met l yX0_isWithin wsX0_isWithin { frames := 0, cells := 0, slots := 0, locals := 0 } (fun v _ => v = ([.int z, .int a, .int b] : List Value).toArray) (QcRead (b2 (a ≤ z ∧ z ≤ b))) 0 0 (fun _ => False) := by
  refine mS 3 (by decide) rfl (Nat.le_of_ble_eq_true rfl) ?_
  intro p e s m below meth c hx hb hml hr hlk hts hown ls hl
  have hC := (⟨hx, hb, hml, hown, hts⟩ : CallFix p m c cX0_isWithin 3 s _ wsX0_isWithin RX0)
  have hl : lv_has ls 3 [(0, .int (z)), (1, .int (a)), (2, .int (b))] := hl
  refine lv_iload_n hx hb dX0_isWithin_0 rfl (lv_at hl 0 rfl) ?_
  refine lv_iload_n hx hb dX0_isWithin_1 rfl (lv_at hl 1 rfl) ?_
  refine lv_icmp_lt (tgt := 14) hx hb dX0_isWithin_2 (by decide) (fun cz1 => ?_) (fun cz1 => ?_)
  · refine lv_iconst (v := 0) hx hb dX0_isWithin_14 (by decide) ?_
    exact rZ hx hb hr hlk rfl dX0_isWithin_15 rfl (b2_f (by clear hl hC hts hown hx hb hr hlk hml; first | (simp_all [Int32.not_lt, Int32.not_le]; done) | grind))
  · refine lv_iload_n hx hb dX0_isWithin_5 rfl (lv_at hl 0 rfl) ?_
    refine lv_iload_n hx hb dX0_isWithin_6 rfl (lv_at hl 2 rfl) ?_
    refine lv_icmp_gt (tgt := 14) hx hb dX0_isWithin_7 (by decide) (fun cz2 => ?_) (fun cz2 => ?_)
    · refine lv_iconst (v := 0) hx hb dX0_isWithin_14 (by decide) ?_
      exact rZ hx hb hr hlk rfl dX0_isWithin_15 rfl (b2_f (by clear hl hC hts hown hx hb hr hlk hml; first | (simp_all [Int32.not_lt, Int32.not_le]; done) | grind))
    · refine lv_iconst (v := 1) hx hb dX0_isWithin_10 (by decide) ?_
      refine lv_goto (tgt := 15) hx hb dX0_isWithin_11 (by decide) ?_
      exact rZ hx hb hr hlk rfl dX0_isWithin_15 rfl (b2_t (by clear hl hC hts hown hx hb hr hlk hml; first | (simp_all [Int32.not_lt, Int32.not_le]; done) | grind))

set_option maxHeartbeats 4000000 in
set_option maxRecDepth 100000 in
theorem kX0_traceOf {l : Launch}  (k : Int32)  : Met l yX0_traceOf wsX0_traceOf { frames := 0, cells := 0, slots := 0, locals := 0 } (fun v _ => v = ([.int k] : List Value).toArray) (QcRead (trI k)) 0 0 (fun _ => False) := by
  refine mS 1 (by decide) rfl (Nat.le_of_ble_eq_true rfl) ?_
  intro p e s m below meth c hx hb hml hr hlk hts hown ls hl
  have hC := (⟨hx, hb, hml, hown, hts⟩ : CallFix p m c cX0_traceOf 1 s _ wsX0_traceOf RX0)
  have hl : lv_has ls 1 [(0, .int (k))] := hl
  refine lv_iload_n hx hb dX0_traceOf_0 rfl (lv_at hl 0 rfl) ?_
  by_cases cz1 : k = 1
  · refine lv_tableIn (off := 27) (tgt := 28) hx hb dX0_traceOf_1 (by rw [cz1]; decide) (by rw [cz1]; decide) (by rw [cz1]; decide) (by decide) ?_
    refine lv_bipush (v := 10) hx hb dX0_traceOf_28 (by decide) ?_
    exact rI hx hb hr hlk rfl dX0_traceOf_30 (by simp_all [trI])
  by_cases cz2 : k = 2
  · refine lv_tableIn (off := 30) (tgt := 31) hx hb dX0_traceOf_1 (by rw [cz2]; decide) (by rw [cz2]; decide) (by rw [cz2]; decide) (by decide) ?_
    refine lv_bipush (v := 110) hx hb dX0_traceOf_31 (by decide) ?_
    exact rI hx hb hr hlk rfl dX0_traceOf_33 (by simp_all [trI])
  by_cases cz3 : k = 3
  · refine lv_tableIn (off := 33) (tgt := 34) hx hb dX0_traceOf_1 (by rw [cz3]; decide) (by rw [cz3]; decide) (by rw [cz3]; decide) (by decide) ?_
    refine lv_sipush (v := 1000) hx hb dX0_traceOf_34 (by decide) ?_
    exact rI hx hb hr hlk rfl dX0_traceOf_37 (by simp_all [trI])
  refine lv_tableOut (tgt := 38) hx hb dX0_traceOf_1 (by have h1 := lv_neT (a := 1) cz1 (by decide); have h2 := lv_neT (a := 2) cz2 (by decide); have h3 := lv_neT (a := 3) cz3 (by decide); omega) (by decide) ?_
  refine lv_iconst (v := 1) hx hb dX0_traceOf_38 (by decide) ?_
  exact rI hx hb hr hlk rfl dX0_traceOf_39 (by simp_all [trI])

theorem hdX0_colouringCount : yX0_colouringCount.cls = RX0 ∧ yX0_colouringCount.cls ≠ "java/lang/invoke/MethodHandle" ∧ yX0_colouringCount.cls ≠ "java/lang/invoke/VarHandle" ∧ (parseMethodDescriptor yX0_colouringCount.desc).map (fun d => d.parameters.length) = some 0 := by decide +kernel
set_option maxHeartbeats 4000000 in
set_option maxRecDepth 100000 in
theorem kX0_colouringCount {l : Launch} {D : va_G} {cy : ClassId} {H : Heap} {q : Nat → Nat} {gT gC : Int32} {ak : Int64} {ta pl cp kd fa fb bm sx sy : Nat → Int32} {N K S : Nat}  (hP : va_P D vwCl (wX cy q (nI N) gT gC (nI K) (nI S) ak ta pl cp kd fa fb bm sx sy) H)  (hN : N ≤ 12) : Met l yX0_colouringCount wsX0_colouringCount { frames := 0, cells := 0, slots := 0, locals := 0 } (pcK D cy H [.ref (q 0)]) (QcRead (nI (2 ^ N))) 0 0 (fun _ => False) := by
  refine mV 1 (by decide) rfl (Nat.le_of_ble_eq_true rfl) ?_
  intro p e s m below meth c hx hb hml hr hlk hts hown hnm hK hH ls hl
  have hC := (⟨hx, hb, hml, hown, hts⟩ : CallFix p m c cX0_colouringCount 1 s _ wsX0_colouringCount RX0)
  have hin : ∀ w ∈ wsX00, w ∈ wsX0_colouringCount := by decide +kernel
  have L7 : Cond.fieldLink RX0 7 "TwoColours" "thingCount" "I" ∈ wsX0_colouringCount := by decide +kernel
  have hl : lv_has ls 1 [(0, .ref (q 0))] := hl
  refine lv_iconst (v := 1) hx hb dX0_colouringCount_0 (by decide) ?_
  refine lv_aload_n hx hb dX0_colouringCount_1 rfl (lv_at hl 0 rfl) ?_
  refine gX_thingCount hx hb hts hin hown hK hP L7 dX0_colouringCount_2 ?_
  refine lv_ishl hx hb dX0_colouringCount_5 ?_
  exact rI hx hb hr hlk hH dX0_colouringCount_6 (shl1 N (by omega))

theorem hdX0_isColouring : yX0_isColouring.cls = RX0 ∧ yX0_isColouring.cls ≠ "java/lang/invoke/MethodHandle" ∧ yX0_isColouring.cls ≠ "java/lang/invoke/VarHandle" ∧ (parseMethodDescriptor yX0_isColouring.desc).map (fun d => d.parameters.length) = some 1 := by decide +kernel
set_option maxHeartbeats 4000000 in
set_option maxRecDepth 100000 in
theorem kX0_isColouring {l : Launch} {D : va_G} {cy : ClassId} {H : Heap} {q : Nat → Nat} {gT gC : Int32} {ak : Int64} {ta pl cp kd fa fb bm sx sy : Nat → Int32} {N K S : Nat}  (hP : va_P D vwCl (wX cy q (nI N) gT gC (nI K) (nI S) ak ta pl cp kd fa fb bm sx sy) H) (k : Int32) (hN : N ≤ 12) : Met l yX0_isColouring wsX0_isColouring { frames := 1, cells := 0, slots := 0, locals := 20 } (pcK D cy H [.ref (q 0), .int k]) (QcRead (b2 (0 ≤ k ∧ k < nI (2 ^ N)))) 0 0 (fun _ => False) := by
  refine mV 2 (by decide) rfl (Nat.le_of_ble_eq_true rfl) ?_
  intro p e s m below meth c hx hb hml hr hlk hts hown hnm hK hH ls hl
  have hC := (⟨hx, hb, hml, hown, hts⟩ : CallFix p m c cX0_isColouring 2 s _ wsX0_isColouring RX0)
  have hl : lv_has ls 2 [(0, .ref (q 0)), (1, .int (k))] := hl
  refine lv_iload_n hx hb dX0_isColouring_0 rfl (lv_at hl 1 rfl) ?_
  refine lv_if_lt (tgt := 16) hx hb dX0_isColouring_1 (by decide) (fun cz1 => ?_) (fun cz1 => ?_)
  · refine lv_iconst (v := 0) hx hb dX0_isColouring_16 (by decide) ?_
    exact rZ hx hb hr hlk hH dX0_isColouring_17 rfl (b2_f (by clear hl hC hK hP hts hown hnm hx hb hr hlk hml; first | (simp_all [Int32.not_lt, Int32.not_le]; done) | grind))
  · refine lv_iload_n hx hb dX0_isColouring_4 rfl (lv_at hl 1 rfl) ?_
    refine lv_aload_n hx hb dX0_isColouring_5 rfl (lv_at hl 0 rfl) ?_
    refine cV (As := []) hC hK hP rfl rfl (kX0_colouringCount hP  (by omega)) [.int (k)] (cwV 0 hts gX0_isColouring_X0_colouringCount rfl rfl rfl hdX0_colouringCount ⟨Nat.le_of_ble_eq_true rfl, Nat.le_of_ble_eq_true rfl⟩) rfl hl.1 rfl (Nat.le_of_ble_eq_true rfl) dX0_isColouring_6 ⟨Nat.zero_le _, Nat.zero_le _⟩ ?_
    refine lv_icmp_ge (tgt := 16) hx hb dX0_isColouring_9 (by decide) (fun cz2 => ?_) (fun cz2 => ?_)
    · refine lv_iconst (v := 0) hx hb dX0_isColouring_16 (by decide) ?_
      exact rZ hx hb hr hlk hH dX0_isColouring_17 rfl (b2_f (by clear hl hC hK hP hts hown hnm hx hb hr hlk hml; first | (simp_all [Int32.not_lt, Int32.not_le]; done) | grind))
    · refine lv_iconst (v := 1) hx hb dX0_isColouring_12 (by decide) ?_
      refine lv_goto (tgt := 17) hx hb dX0_isColouring_13 (by decide) ?_
      exact rZ hx hb hr hlk hH dX0_isColouring_17 rfl (b2_t (by clear hl hC hK hP hts hown hnm hx hb hr hlk hml; first | (simp_all [Int32.not_lt, Int32.not_le]; done) | grind))

theorem hdX0_keepsToHeld : yX0_keepsToHeld.cls = RX0 ∧ yX0_keepsToHeld.cls ≠ "java/lang/invoke/MethodHandle" ∧ yX0_keepsToHeld.cls ≠ "java/lang/invoke/VarHandle" ∧ (parseMethodDescriptor yX0_keepsToHeld.desc).map (fun d => d.parameters.length) = some 1 := by decide +kernel
set_option maxHeartbeats 4000000 in
set_option maxRecDepth 100000 in
theorem kX0_keepsToHeld {l : Launch} {D : va_G} {cy : ClassId} {H : Heap} {q : Nat → Nat} {gT gC : Int32} {ak : Int64} {ta pl cp kd fa fb bm sx sy : Nat → Int32} {N K S : Nat}  (hP : va_P D vwCl (wX cy q (nI N) gT gC (nI K) (nI S) ak ta pl cp kd fa fb bm sx sy) H) (k : Int32)  : Met l yX0_keepsToHeld wsX0_keepsToHeld { frames := 0, cells := 0, slots := 0, locals := 0 } (pcK D cy H [.ref (q 0), .int k]) (QcRead (b2 (k &&& gT = gC))) 0 0 (fun _ => False) := by
  refine mV 2 (by decide) rfl (Nat.le_of_ble_eq_true rfl) ?_
  intro p e s m below meth c hx hb hml hr hlk hts hown hnm hK hH ls hl
  have hC := (⟨hx, hb, hml, hown, hts⟩ : CallFix p m c cX0_keepsToHeld 2 s _ wsX0_keepsToHeld RX0)
  have hin : ∀ w ∈ wsX00, w ∈ wsX0_keepsToHeld := by decide +kernel
  have L20 : Cond.fieldLink RX0 20 "TwoColours" "heldThings" "I" ∈ wsX0_keepsToHeld := by decide +kernel
  have L23 : Cond.fieldLink RX0 23 "TwoColours" "heldColours" "I" ∈ wsX0_keepsToHeld := by decide +kernel
  have hl : lv_has ls 2 [(0, .ref (q 0)), (1, .int (k))] := hl
  refine lv_iload_n hx hb dX0_keepsToHeld_0 rfl (lv_at hl 1 rfl) ?_
  refine lv_aload_n hx hb dX0_keepsToHeld_1 rfl (lv_at hl 0 rfl) ?_
  refine gX_heldThings hx hb hts hin hown hK hP L20 dX0_keepsToHeld_2 ?_
  refine lv_iand hx hb dX0_keepsToHeld_5 ?_
  refine lv_aload_n hx hb dX0_keepsToHeld_6 rfl (lv_at hl 0 rfl) ?_
  refine gX_heldColours hx hb hts hin hown hK hP L23 dX0_keepsToHeld_7 ?_
  refine lv_icmp_ne (tgt := 17) hx hb dX0_keepsToHeld_10 (by decide) (fun cz1 => ?_) (fun cz1 => ?_)
  · refine lv_iconst (v := 0) hx hb dX0_keepsToHeld_17 (by decide) ?_
    exact rZ hx hb hr hlk hH dX0_keepsToHeld_18 rfl (b2_f (by clear hl hC hin hK hP hts hown hnm hx hb hr hlk hml; first | (simp_all [Int32.not_lt, Int32.not_le]; done) | grind))
  · refine lv_iconst (v := 1) hx hb dX0_keepsToHeld_13 (by decide) ?_
    refine lv_goto (tgt := 18) hx hb dX0_keepsToHeld_14 (by decide) ?_
    exact rZ hx hb hr hlk hH dX0_keepsToHeld_18 rfl (b2_t (by clear hl hC hin hK hP hts hown hnm hx hb hr hlk hml; first | (simp_all [Int32.not_lt, Int32.not_le]; done) | grind))

theorem hdX0_belongs : yX0_belongs.cls = RX0 ∧ yX0_belongs.cls ≠ "java/lang/invoke/MethodHandle" ∧ yX0_belongs.cls ≠ "java/lang/invoke/VarHandle" ∧ (parseMethodDescriptor yX0_belongs.desc).map (fun d => d.parameters.length) = some 4 := by decide +kernel
set_option maxHeartbeats 4000000 in
set_option maxRecDepth 100000 in
theorem kX0_belongs {l : Launch} {D : va_G} {cy : ClassId} {H : Heap} {q : Nat → Nat} {gT gC : Int32} {ak : Int64} {ta pl cp kd fa fb bm sx sy : Nat → Int32} {N K S : Nat}  (hP : va_P D vwCl (wX cy q (nI N) gT gC (nI K) (nI S) ak ta pl cp kd fa fb bm sx sy) H) (t : Nat) (k : Int32) (a : Int32) (b : Int32) (ht : t < 12) : Met l yX0_belongs wsX0_belongs { frames := 1, cells := 0, slots := 0, locals := 22 } (pcK D cy H [.ref (q 0), .int (nI t), .int k, .int a, .int b]) (QcRead (b2 (belX pl t k a b = true))) 0 0 (fun _ => False) := by
  refine mV 5 (by decide) rfl (Nat.le_of_ble_eq_true rfl) ?_
  intro p e s m below meth c hx hb hml hr hlk hts hown hnm hK hH ls hl
  have hC := (⟨hx, hb, hml, hown, hts⟩ : CallFix p m c cX0_belongs 5 s _ wsX0_belongs RX0)
  have hin : ∀ w ∈ wsX00, w ∈ wsX0_belongs := by decide +kernel
  have L17 : Cond.fieldLink RX0 17 "TwoColours" "placeOf" "[I" ∈ wsX0_belongs := by decide +kernel
  have hl : lv_has ls 5 [(0, .ref (q 0)), (1, .int (nI t)), (2, .int (k)), (3, .int (a)), (4, .int (b))] := hl
  refine lv_iload_n hx hb dX0_belongs_0 rfl (lv_at hl 2 rfl) ?_
  by_cases cz1 : k = 1
  · refine lv_tableIn (off := 27) (tgt := 28) hx hb dX0_belongs_1 (by rw [cz1]; decide) (by rw [cz1]; decide) (by rw [cz1]; decide) (by decide) ?_
    refine lv_iload_n hx hb dX0_belongs_28 rfl (lv_at hl 1 rfl) ?_
    refine lv_iload_n hx hb dX0_belongs_29 rfl (lv_at hl 3 rfl) ?_
    refine lv_iload hx hb dX0_belongs_30 (lv_at hl 4 rfl) ?_
    refine cS (As := [.int (nI t), .int (a), .int (b)]) hC (kX0_isWithin (nI t) a b ) [] (va_cwS 3 hts gX0_belongs_X0_isWithin rfl rfl rfl (by decide +kernel) ⟨Nat.le_of_ble_eq_true rfl, Nat.le_of_ble_eq_true rfl⟩) rfl hl.1 rfl (Nat.le_of_ble_eq_true rfl) dX0_belongs_32 ⟨Nat.zero_le _, Nat.zero_le _⟩ ?_
    exact rZ hx hb hr hlk hH dX0_belongs_35 b2_nar (b2_congr (by clear hl hC hin hK hP hts hown hnm hx hb hr hlk hml; first | (simp_all [Int32.not_lt, Int32.not_le, belX]; done) | grind [belX]))
  by_cases cz2 : k = 2
  · refine lv_tableIn (off := 35) (tgt := 36) hx hb dX0_belongs_1 (by rw [cz2]; decide) (by rw [cz2]; decide) (by rw [cz2]; decide) (by decide) ?_
    refine lv_aload_n hx hb dX0_belongs_36 rfl (lv_at hl 0 rfl) ?_
    refine gX_placeOf hx hb hts hin hown hK hP L17 dX0_belongs_37 ?_
    refine lv_iload_n hx hb dX0_belongs_40 rfl (lv_at hl 1 rfl) ?_
    refine ldX_placeOf (j := t) hx hb hK hP rfl (by omega) dX0_belongs_41 ?_
    refine lv_iload_n hx hb dX0_belongs_42 rfl (lv_at hl 3 rfl) ?_
    refine lv_iload hx hb dX0_belongs_43 (lv_at hl 4 rfl) ?_
    refine cS (As := [.int (pl t), .int (a), .int (b)]) hC (kX0_isWithin (pl t) a b ) [] (va_cwS 3 hts gX0_belongs_X0_isWithin rfl rfl rfl (by decide +kernel) ⟨Nat.le_of_ble_eq_true rfl, Nat.le_of_ble_eq_true rfl⟩) rfl hl.1 rfl (Nat.le_of_ble_eq_true rfl) dX0_belongs_45 ⟨Nat.zero_le _, Nat.zero_le _⟩ ?_
    exact rZ hx hb hr hlk hH dX0_belongs_48 b2_nar (b2_congr (by clear hl hC hin hK hP hts hown hnm hx hb hr hlk hml; first | (simp_all [Int32.not_lt, Int32.not_le, belX]; done) | grind [belX]))
  by_cases cz3 : k = 3
  · refine lv_tableIn (off := 48) (tgt := 49) hx hb dX0_belongs_1 (by rw [cz3]; decide) (by rw [cz3]; decide) (by rw [cz3]; decide) (by decide) ?_
    refine lv_iload_n hx hb dX0_belongs_49 rfl (lv_at hl 1 rfl) ?_
    refine lv_iload_n hx hb dX0_belongs_50 rfl (lv_at hl 3 rfl) ?_
    refine lv_icmp_lt (tgt := 72) hx hb dX0_belongs_51 (by decide) (fun cz4 => ?_) (fun cz4 => ?_)
    · refine lv_iconst (v := 0) hx hb dX0_belongs_72 (by decide) ?_
      exact rZ hx hb hr hlk hH dX0_belongs_73 rfl (b2_f (by clear hl hC hin hK hP hts hown hnm hx hb hr hlk hml; first | (simp_all [Int32.not_lt, Int32.not_le, belX]; done) | grind [belX]))
    · refine lv_iload hx hb dX0_belongs_54 (lv_at hl 4 rfl) ?_
      refine lv_if_le (tgt := 72) hx hb dX0_belongs_56 (by decide) (fun cz5 => ?_) (fun cz5 => ?_)
      · refine lv_iconst (v := 0) hx hb dX0_belongs_72 (by decide) ?_
        exact rZ hx hb hr hlk hH dX0_belongs_73 rfl (b2_f (by clear hl hC hin hK hP hts hown hnm hx hb hr hlk hml; first | (simp_all [Int32.not_lt, Int32.not_le, belX]; done) | grind [belX]))
      · refine lv_iload_n hx hb dX0_belongs_59 rfl (lv_at hl 1 rfl) ?_
        refine lv_iload_n hx hb dX0_belongs_60 rfl (lv_at hl 3 rfl) ?_
        refine lv_isub hx hb dX0_belongs_61 ?_
        refine lv_iload hx hb dX0_belongs_62 (lv_at hl 4 rfl) ?_
        refine lv_irem hx hb dX0_belongs_64 (fun h => by rw [h] at cz5; exact absurd (by decide) cz5) ?_
        refine lv_if_ne (tgt := 72) hx hb dX0_belongs_65 (by decide) (fun cz6 => ?_) (fun cz6 => ?_)
        · refine lv_iconst (v := 0) hx hb dX0_belongs_72 (by decide) ?_
          exact rZ hx hb hr hlk hH dX0_belongs_73 rfl (b2_f (by clear hl hC hin hK hP hts hown hnm hx hb hr hlk hml; first | (simp_all [Int32.not_lt, Int32.not_le, belX]; done) | grind [belX]))
        · refine lv_iconst (v := 1) hx hb dX0_belongs_68 (by decide) ?_
          refine lv_goto (tgt := 73) hx hb dX0_belongs_69 (by decide) ?_
          exact rZ hx hb hr hlk hH dX0_belongs_73 rfl (b2_t (by clear hl hC hin hK hP hts hown hnm hx hb hr hlk hml; first | (simp_all [Int32.not_lt, Int32.not_le, belX]; done) | grind [belX]))
  refine lv_tableOut (tgt := 74) hx hb dX0_belongs_1 (by have h1 := lv_neT (a := 1) cz1 (by decide); have h2 := lv_neT (a := 2) cz2 (by decide); have h3 := lv_neT (a := 3) cz3 (by decide); omega) (by decide) ?_
  refine lv_iload_n hx hb dX0_belongs_74 rfl (lv_at hl 3 rfl) ?_
  refine lv_iload_n hx hb dX0_belongs_75 rfl (lv_at hl 1 rfl) ?_
  refine cS (As := [.int (a), .int (nI t)]) hC (kX0_bitOf a (nI t) ) [] (va_cwS 2 hts gX0_belongs_X0_bitOf rfl rfl rfl (by decide +kernel) ⟨Nat.le_of_ble_eq_true rfl, Nat.le_of_ble_eq_true rfl⟩) rfl hl.1 rfl (Nat.le_of_ble_eq_true rfl) dX0_belongs_76 ⟨Nat.zero_le _, Nat.zero_le _⟩ ?_
  refine lv_iconst (v := 1) hx hb dX0_belongs_79 (by decide) ?_
  refine lv_icmp_ne (tgt := 87) hx hb dX0_belongs_80 (by decide) (fun cz7 => ?_) (fun cz7 => ?_)
  · refine lv_iconst (v := 0) hx hb dX0_belongs_87 (by decide) ?_
    exact rZ hx hb hr hlk hH dX0_belongs_88 rfl (b2_f (by clear hl hC hin hK hP hts hown hnm hx hb hr hlk hml; first | (simp_all [Int32.not_lt, Int32.not_le, belX]; done) | grind [belX]))
  · refine lv_iconst (v := 1) hx hb dX0_belongs_83 (by decide) ?_
    refine lv_goto (tgt := 88) hx hb dX0_belongs_84 (by decide) ?_
    exact rZ hx hb hr hlk hH dX0_belongs_88 rfl (b2_t (by clear hl hC hin hK hP hts hown hnm hx hb hr hlk hml; first | (simp_all [Int32.not_lt, Int32.not_le, belX]; done) | grind [belX]))

theorem hdX0_thingsOf : yX0_thingsOf.cls = RX0 ∧ yX0_thingsOf.cls ≠ "java/lang/invoke/MethodHandle" ∧ yX0_thingsOf.cls ≠ "java/lang/invoke/VarHandle" ∧ (parseMethodDescriptor yX0_thingsOf.desc).map (fun d => d.parameters.length) = some 3 := by decide +kernel
set_option maxHeartbeats 4000000 in
set_option maxRecDepth 100000 in
theorem kX0_thingsOf {l : Launch} {D : va_G} {cy : ClassId} {H : Heap} {q : Nat → Nat} {gT gC : Int32} {ak : Int64} {ta pl cp kd fa fb bm sx sy : Nat → Int32} {N K S : Nat}  (hP : va_P D vwCl (wX cy q (nI N) gT gC (nI K) (nI S) ak ta pl cp kd fa fb bm sx sy) H) (k : Int32) (a : Int32) (b : Int32) (hN : N ≤ 12) : Met l yX0_thingsOf wsX0_thingsOf { frames := 2, cells := 0, slots := 0, locals := 46 } (pcK D cy H [.ref (q 0), .int k, .int a, .int b]) (QcRead (setF (fun t => belX pl t k a b) N)) 0 0 (fun _ => False) := by
  refine mV 6 (by decide) rfl (Nat.le_of_ble_eq_true rfl) ?_
  intro p e s m below meth c hx hb hml hr hlk hts hown hnm hK hH ls hl
  have hC := (⟨hx, hb, hml, hown, hts⟩ : CallFix p m c cX0_thingsOf 6 s _ wsX0_thingsOf RX0)
  have hin : ∀ w ∈ wsX00, w ∈ wsX0_thingsOf := by decide +kernel
  have L7 : Cond.fieldLink RX0 7 "TwoColours" "thingCount" "I" ∈ wsX0_thingsOf := by decide +kernel
  have hl : lv_has ls 6 [(0, .ref (q 0)), (1, .int (k)), (2, .int (a)), (3, .int (b))] := hl
  refine lv_iconst (v := 0) hx hb dX0_thingsOf_0 (by decide) ?_
  refine lv_istore (lv' := [(4, .int (0)), (0, .ref (q 0)), (1, .int (k)), (2, .int (a)), (3, .int (b))]) hx hb dX0_thingsOf_1 hl (by decide) rfl (fun ls hl => ?_)
  refine lv_iconst (v := 0) hx hb dX0_thingsOf_3 (by decide) ?_
  refine lv_istore (lv' := [(5, .int (0)), (4, .int (0)), (0, .ref (q 0)), (1, .int (k)), (2, .int (a)), (3, .int (b))]) hx hb dX0_thingsOf_4 hl (by decide) rfl (fun ls hl => ?_)
  refine lpP 6 (fun i ls => lv_has ls 6 [(0, .ref (q 0)), (1, .int (k)), (2, .int (a)), (3, .int (b)), (4, .int (setF (fun t => belX pl t k a b) i)), (5, .int (nI i))]) (N) ?_ (0) ls (by omega) (lv_sub hl [2, 3, 4, 5, 1, 0] rfl)
  intro i ls hi hl ih_6
  refine lv_iload hx hb dX0_thingsOf_6 (lv_at hl 5 rfl) ?_
  refine lv_aload_n hx hb dX0_thingsOf_8 rfl (lv_at hl 0 rfl) ?_
  refine gX_thingCount hx hb hts hin hown hK hP L7 dX0_thingsOf_9 ?_
  refine lv_icmp_ge (tgt := 42) hx hb dX0_thingsOf_12 (by decide) (fun cz1 => ?_) (fun cz1 => ?_)
  · have cz1 : N ≤ i := (nI_leI (a := N) (b := i) (by omega) (by omega)).mp cz1
    refine lv_iload hx hb dX0_thingsOf_42 (lv_at hl 4 rfl) ?_
    exact rI hx hb hr hlk hH dX0_thingsOf_44 (by rw [show i = N by omega])
  · have cz1 : ¬ N ≤ i := fun h => cz1 ((nI_leI (a := N) (b := i) (by omega) (by omega)).mpr h)
    refine lv_aload_n hx hb dX0_thingsOf_15 rfl (lv_at hl 0 rfl) ?_
    refine lv_iload hx hb dX0_thingsOf_16 (lv_at hl 5 rfl) ?_
    refine lv_iload_n hx hb dX0_thingsOf_18 rfl (lv_at hl 1 rfl) ?_
    refine lv_iload_n hx hb dX0_thingsOf_19 rfl (lv_at hl 2 rfl) ?_
    refine lv_iload_n hx hb dX0_thingsOf_20 rfl (lv_at hl 3 rfl) ?_
    refine cV (As := [.int (nI i), .int (k), .int (a), .int (b)]) hC hK hP rfl rfl (kX0_belongs hP i k a b (by omega)) [] (cwV 4 hts gX0_thingsOf_X0_belongs rfl rfl rfl hdX0_belongs ⟨Nat.le_of_ble_eq_true rfl, Nat.le_of_ble_eq_true rfl⟩) rfl hl.1 rfl (Nat.le_of_ble_eq_true rfl) dX0_thingsOf_21 ⟨Nat.zero_le _, Nat.zero_le _⟩ ?_
    refine lv_if_eq (tgt := 36) hx hb dX0_thingsOf_24 (by decide) (fun cz2 => ?_) (fun cz2 => ?_)
    · have cz2 := b2_0 cz2
      refine lv_iinc (v := nI (i + 1)) (lv' := [(5, .int (nI (i + 1))), (0, .ref (q 0)), (1, .int (k)), (2, .int (a)), (3, .int (b)), (4, .int (setF (fun t => belX pl t k a b) i))]) hx hb dX0_thingsOf_36 hl (k := 5) rfl (nI_1 _) (by decide) rfl (fun ls hl => ?_)
      refine lv_goto (tgt := 6) hx hb dX0_thingsOf_39 (by decide) ?_
      exact ih_6 _ (by omega) (by rw [setF_f (by assumption)]; exact lv_sub hl [1, 2, 3, 4, 5, 0] rfl)
    · have cz2 := b2_1 cz2
      refine lv_iload hx hb dX0_thingsOf_27 (lv_at hl 4 rfl) ?_
      refine lv_iconst (v := 1) hx hb dX0_thingsOf_29 (by decide) ?_
      refine lv_iload hx hb dX0_thingsOf_30 (lv_at hl 5 rfl) ?_
      refine lv_ishl hx hb dX0_thingsOf_32 ?_
      refine lv_ior hx hb dX0_thingsOf_33 ?_
      refine lv_istore (lv' := [(4, .int ((setF (fun t => belX pl t k a b) i) ||| ((1 : Int32) <<< ((nI i) &&& 31)))), (0, .ref (q 0)), (1, .int (k)), (2, .int (a)), (3, .int (b)), (5, .int (nI i))]) hx hb dX0_thingsOf_34 hl (by decide) rfl (fun ls hl => ?_)
      refine lv_iinc (v := nI (i + 1)) (lv' := [(5, .int (nI (i + 1))), (4, .int ((setF (fun t => belX pl t k a b) i) ||| ((1 : Int32) <<< ((nI i) &&& 31)))), (0, .ref (q 0)), (1, .int (k)), (2, .int (a)), (3, .int (b))]) hx hb dX0_thingsOf_36 hl (k := 5) rfl (nI_1 _) (by decide) rfl (fun ls hl => ?_)
      refine lv_goto (tgt := 6) hx hb dX0_thingsOf_39 (by decide) ?_
      exact ih_6 _ (by omega) (by rw [setF_t (by assumption)]; exact lv_sub hl [2, 3, 4, 5, 1, 0] rfl)

theorem hdX0_canBeHeap : yX0_canBeHeap.cls = RX0 ∧ yX0_canBeHeap.cls ≠ "java/lang/invoke/MethodHandle" ∧ yX0_canBeHeap.cls ≠ "java/lang/invoke/VarHandle" ∧ (parseMethodDescriptor yX0_canBeHeap.desc).map (fun d => d.parameters.length) = some 3 := by decide +kernel
set_option maxHeartbeats 4000000 in
set_option maxRecDepth 100000 in
theorem kX0_canBeHeap {l : Launch} {D : va_G} {cy : ClassId} {H : Heap} {q : Nat → Nat} {gT gC : Int32} {ak : Int64} {ta pl cp kd fa fb bm sx sy : Nat → Int32} {N K S : Nat}  (hP : va_P D vwCl (wX cy q (nI N) gT gC (nI K) (nI S) ak ta pl cp kd fa fb bm sx sy) H) (k : Int32) (a : Int32) (b : Int32) (hN : N ≤ 12) : Met l yX0_canBeHeap wsX0_canBeHeap { frames := 2, cells := 0, slots := 0, locals := 41 } (pcK D cy H [.ref (q 0), .int k, .int a, .int b]) (QcRead (b2 (canX N k a b = true))) 0 0 (fun _ => False) := by
  refine mV 4 (by decide) rfl (Nat.le_of_ble_eq_true rfl) ?_
  intro p e s m below meth c hx hb hml hr hlk hts hown hnm hK hH ls hl
  have hC := (⟨hx, hb, hml, hown, hts⟩ : CallFix p m c cX0_canBeHeap 4 s _ wsX0_canBeHeap RX0)
  have hl : lv_has ls 4 [(0, .ref (q 0)), (1, .int (k)), (2, .int (a)), (3, .int (b))] := hl
  refine lv_iload_n hx hb dX0_canBeHeap_0 rfl (lv_at hl 1 rfl) ?_
  by_cases cz1 : k = 0
  · refine lv_tableIn (off := 31) (tgt := 32) hx hb dX0_canBeHeap_1 (by rw [cz1]; decide) (by rw [cz1]; decide) (by rw [cz1]; decide) (by decide) ?_
    refine lv_aload_n hx hb dX0_canBeHeap_32 rfl (lv_at hl 0 rfl) ?_
    refine lv_iload_n hx hb dX0_canBeHeap_33 rfl (lv_at hl 2 rfl) ?_
    refine cV (As := [.int (a)]) hC hK hP rfl rfl (kX0_isColouring hP a (by omega)) [] (cwV 1 hts gX0_canBeHeap_X0_isColouring rfl rfl rfl hdX0_isColouring ⟨Nat.le_of_ble_eq_true rfl, Nat.le_of_ble_eq_true rfl⟩) rfl hl.1 rfl (Nat.le_of_ble_eq_true rfl) dX0_canBeHeap_34 ⟨Nat.zero_le _, Nat.zero_le _⟩ ?_
    exact rZ hx hb hr hlk hH dX0_canBeHeap_37 b2_nar (b2_congr (by clear hl hC hK hP hts hown hnm hx hb hr hlk hml; first | (simp_all [Int32.not_lt, Int32.not_le, canX]; done) | grind [canX]))
  by_cases cz2 : k = 1
  · refine lv_tableIn (off := 37) (tgt := 38) hx hb dX0_canBeHeap_1 (by rw [cz2]; decide) (by rw [cz2]; decide) (by rw [cz2]; decide) (by decide) ?_
    refine lv_aload_n hx hb dX0_canBeHeap_38 rfl (lv_at hl 0 rfl) ?_
    refine lv_iload_n hx hb dX0_canBeHeap_39 rfl (lv_at hl 2 rfl) ?_
    refine cV (As := [.int (a)]) hC hK hP rfl rfl (kX0_isThing hP a ) [] (cwV 1 hts gX0_canBeHeap_X0_isThing rfl rfl rfl hdX0_isThing ⟨Nat.le_of_ble_eq_true rfl, Nat.le_of_ble_eq_true rfl⟩) rfl hl.1 rfl (Nat.le_of_ble_eq_true rfl) dX0_canBeHeap_40 ⟨Nat.zero_le _, Nat.zero_le _⟩ ?_
    refine lv_if_eq (tgt := 63) hx hb dX0_canBeHeap_43 (by decide) (fun cz3 => ?_) (fun cz3 => ?_)
    · have cz3 := b2_0 cz3
      refine lv_iconst (v := 0) hx hb dX0_canBeHeap_63 (by decide) ?_
      exact rZ hx hb hr hlk hH dX0_canBeHeap_64 rfl (b2_f (by clear hl hC hK hP hts hown hnm hx hb hr hlk hml; first | (simp_all [Int32.not_lt, Int32.not_le, canX]; done) | grind [canX]))
    · have cz3 := b2_1 cz3
      refine lv_aload_n hx hb dX0_canBeHeap_46 rfl (lv_at hl 0 rfl) ?_
      refine lv_iload_n hx hb dX0_canBeHeap_47 rfl (lv_at hl 3 rfl) ?_
      refine cV (As := [.int (b)]) hC hK hP rfl rfl (kX0_isThing hP b ) [] (cwV 1 hts gX0_canBeHeap_X0_isThing rfl rfl rfl hdX0_isThing ⟨Nat.le_of_ble_eq_true rfl, Nat.le_of_ble_eq_true rfl⟩) rfl hl.1 rfl (Nat.le_of_ble_eq_true rfl) dX0_canBeHeap_48 ⟨Nat.zero_le _, Nat.zero_le _⟩ ?_
      refine lv_if_eq (tgt := 63) hx hb dX0_canBeHeap_51 (by decide) (fun cz4 => ?_) (fun cz4 => ?_)
      · have cz4 := b2_0 cz4
        refine lv_iconst (v := 0) hx hb dX0_canBeHeap_63 (by decide) ?_
        exact rZ hx hb hr hlk hH dX0_canBeHeap_64 rfl (b2_f (by clear hl hC hK hP hts hown hnm hx hb hr hlk hml; first | (simp_all [Int32.not_lt, Int32.not_le, canX]; done) | grind [canX]))
      · have cz4 := b2_1 cz4
        refine lv_iload_n hx hb dX0_canBeHeap_54 rfl (lv_at hl 2 rfl) ?_
        refine lv_iload_n hx hb dX0_canBeHeap_55 rfl (lv_at hl 3 rfl) ?_
        refine lv_icmp_gt (tgt := 63) hx hb dX0_canBeHeap_56 (by decide) (fun cz5 => ?_) (fun cz5 => ?_)
        · refine lv_iconst (v := 0) hx hb dX0_canBeHeap_63 (by decide) ?_
          exact rZ hx hb hr hlk hH dX0_canBeHeap_64 rfl (b2_f (by clear hl hC hK hP hts hown hnm hx hb hr hlk hml; first | (simp_all [Int32.not_lt, Int32.not_le, canX]; done) | grind [canX]))
        · refine lv_iconst (v := 1) hx hb dX0_canBeHeap_59 (by decide) ?_
          refine lv_goto (tgt := 64) hx hb dX0_canBeHeap_60 (by decide) ?_
          exact rZ hx hb hr hlk hH dX0_canBeHeap_64 rfl (b2_t (by clear hl hC hK hP hts hown hnm hx hb hr hlk hml; first | (simp_all [Int32.not_lt, Int32.not_le, canX]; done) | grind [canX]))
  by_cases cz6 : k = 2
  · refine lv_tableIn (off := 37) (tgt := 38) hx hb dX0_canBeHeap_1 (by rw [cz6]; decide) (by rw [cz6]; decide) (by rw [cz6]; decide) (by decide) ?_
    refine lv_aload_n hx hb dX0_canBeHeap_38 rfl (lv_at hl 0 rfl) ?_
    refine lv_iload_n hx hb dX0_canBeHeap_39 rfl (lv_at hl 2 rfl) ?_
    refine cV (As := [.int (a)]) hC hK hP rfl rfl (kX0_isThing hP a ) [] (cwV 1 hts gX0_canBeHeap_X0_isThing rfl rfl rfl hdX0_isThing ⟨Nat.le_of_ble_eq_true rfl, Nat.le_of_ble_eq_true rfl⟩) rfl hl.1 rfl (Nat.le_of_ble_eq_true rfl) dX0_canBeHeap_40 ⟨Nat.zero_le _, Nat.zero_le _⟩ ?_
    refine lv_if_eq (tgt := 63) hx hb dX0_canBeHeap_43 (by decide) (fun cz7 => ?_) (fun cz7 => ?_)
    · have cz7 := b2_0 cz7
      refine lv_iconst (v := 0) hx hb dX0_canBeHeap_63 (by decide) ?_
      exact rZ hx hb hr hlk hH dX0_canBeHeap_64 rfl (b2_f (by clear hl hC hK hP hts hown hnm hx hb hr hlk hml; first | (simp_all [Int32.not_lt, Int32.not_le, canX]; done) | grind [canX]))
    · have cz7 := b2_1 cz7
      refine lv_aload_n hx hb dX0_canBeHeap_46 rfl (lv_at hl 0 rfl) ?_
      refine lv_iload_n hx hb dX0_canBeHeap_47 rfl (lv_at hl 3 rfl) ?_
      refine cV (As := [.int (b)]) hC hK hP rfl rfl (kX0_isThing hP b ) [] (cwV 1 hts gX0_canBeHeap_X0_isThing rfl rfl rfl hdX0_isThing ⟨Nat.le_of_ble_eq_true rfl, Nat.le_of_ble_eq_true rfl⟩) rfl hl.1 rfl (Nat.le_of_ble_eq_true rfl) dX0_canBeHeap_48 ⟨Nat.zero_le _, Nat.zero_le _⟩ ?_
      refine lv_if_eq (tgt := 63) hx hb dX0_canBeHeap_51 (by decide) (fun cz8 => ?_) (fun cz8 => ?_)
      · have cz8 := b2_0 cz8
        refine lv_iconst (v := 0) hx hb dX0_canBeHeap_63 (by decide) ?_
        exact rZ hx hb hr hlk hH dX0_canBeHeap_64 rfl (b2_f (by clear hl hC hK hP hts hown hnm hx hb hr hlk hml; first | (simp_all [Int32.not_lt, Int32.not_le, canX]; done) | grind [canX]))
      · have cz8 := b2_1 cz8
        refine lv_iload_n hx hb dX0_canBeHeap_54 rfl (lv_at hl 2 rfl) ?_
        refine lv_iload_n hx hb dX0_canBeHeap_55 rfl (lv_at hl 3 rfl) ?_
        refine lv_icmp_gt (tgt := 63) hx hb dX0_canBeHeap_56 (by decide) (fun cz9 => ?_) (fun cz9 => ?_)
        · refine lv_iconst (v := 0) hx hb dX0_canBeHeap_63 (by decide) ?_
          exact rZ hx hb hr hlk hH dX0_canBeHeap_64 rfl (b2_f (by clear hl hC hK hP hts hown hnm hx hb hr hlk hml; first | (simp_all [Int32.not_lt, Int32.not_le, canX]; done) | grind [canX]))
        · refine lv_iconst (v := 1) hx hb dX0_canBeHeap_59 (by decide) ?_
          refine lv_goto (tgt := 64) hx hb dX0_canBeHeap_60 (by decide) ?_
          exact rZ hx hb hr hlk hH dX0_canBeHeap_64 rfl (b2_t (by clear hl hC hK hP hts hown hnm hx hb hr hlk hml; first | (simp_all [Int32.not_lt, Int32.not_le, canX]; done) | grind [canX]))
  by_cases cz10 : k = 3
  · refine lv_tableIn (off := 64) (tgt := 65) hx hb dX0_canBeHeap_1 (by rw [cz10]; decide) (by rw [cz10]; decide) (by rw [cz10]; decide) (by decide) ?_
    refine lv_aload_n hx hb dX0_canBeHeap_65 rfl (lv_at hl 0 rfl) ?_
    refine lv_iload_n hx hb dX0_canBeHeap_66 rfl (lv_at hl 2 rfl) ?_
    refine cV (As := [.int (a)]) hC hK hP rfl rfl (kX0_isThing hP a ) [] (cwV 1 hts gX0_canBeHeap_X0_isThing rfl rfl rfl hdX0_isThing ⟨Nat.le_of_ble_eq_true rfl, Nat.le_of_ble_eq_true rfl⟩) rfl hl.1 rfl (Nat.le_of_ble_eq_true rfl) dX0_canBeHeap_67 ⟨Nat.zero_le _, Nat.zero_le _⟩ ?_
    refine lv_if_eq (tgt := 88) hx hb dX0_canBeHeap_70 (by decide) (fun cz11 => ?_) (fun cz11 => ?_)
    · have cz11 := b2_0 cz11
      refine lv_iconst (v := 0) hx hb dX0_canBeHeap_88 (by decide) ?_
      exact rZ hx hb hr hlk hH dX0_canBeHeap_89 rfl (b2_f (by clear hl hC hK hP hts hown hnm hx hb hr hlk hml; first | (simp_all [Int32.not_lt, Int32.not_le, canX]; done) | grind [canX]))
    · have cz11 := b2_1 cz11
      refine lv_iload_n hx hb dX0_canBeHeap_73 rfl (lv_at hl 3 rfl) ?_
      refine lv_iconst (v := 1) hx hb dX0_canBeHeap_74 (by decide) ?_
      refine lv_icmp_lt (tgt := 88) hx hb dX0_canBeHeap_75 (by decide) (fun cz12 => ?_) (fun cz12 => ?_)
      · refine lv_iconst (v := 0) hx hb dX0_canBeHeap_88 (by decide) ?_
        exact rZ hx hb hr hlk hH dX0_canBeHeap_89 rfl (b2_f (by clear hl hC hK hP hts hown hnm hx hb hr hlk hml; first | (simp_all [Int32.not_lt, Int32.not_le, canX]; done) | grind [canX]))
      · refine lv_iload_n hx hb dX0_canBeHeap_78 rfl (lv_at hl 3 rfl) ?_
        refine lv_bipush (v := 12) hx hb dX0_canBeHeap_79 (by decide) ?_
        refine lv_icmp_gt (tgt := 88) hx hb dX0_canBeHeap_81 (by decide) (fun cz13 => ?_) (fun cz13 => ?_)
        · refine lv_iconst (v := 0) hx hb dX0_canBeHeap_88 (by decide) ?_
          exact rZ hx hb hr hlk hH dX0_canBeHeap_89 rfl (b2_f (by clear hl hC hK hP hts hown hnm hx hb hr hlk hml; first | (simp_all [Int32.not_lt, Int32.not_le, canX]; done) | grind [canX]))
        · refine lv_iconst (v := 1) hx hb dX0_canBeHeap_84 (by decide) ?_
          refine lv_goto (tgt := 89) hx hb dX0_canBeHeap_85 (by decide) ?_
          exact rZ hx hb hr hlk hH dX0_canBeHeap_89 rfl (b2_t (by clear hl hC hK hP hts hown hnm hx hb hr hlk hml; first | (simp_all [Int32.not_lt, Int32.not_le, canX]; done) | grind [canX]))
  refine lv_tableOut (tgt := 90) hx hb dX0_canBeHeap_1 (by have h0 := lv_neT (a := 0) cz1 (by decide); have h1 := lv_neT (a := 1) cz2 (by decide); have h2 := lv_neT (a := 2) cz6 (by decide); have h3 := lv_neT (a := 3) cz10 (by decide); omega) (by decide) ?_
  refine lv_iconst (v := 0) hx hb dX0_canBeHeap_90 (by decide) ?_
  exact rZ hx hb hr hlk hH dX0_canBeHeap_91 rfl (b2_f (by clear hl hC hK hP hts hown hnm hx hb hr hlk hml; first | (simp_all [Int32.not_lt, Int32.not_le, canX]; done) | grind [canX]))

set_option maxHeartbeats 4000000 in
set_option maxRecDepth 100000 in
theorem kJ6_bitCount_0f7a4 {l : Launch}  (x : Int32)  : Met l yJ6_bitCount_0f7a4 wsJ6_bitCount_0f7a4 { frames := 0, cells := 0, slots := 0, locals := 0 } (fun v _ => v = ([.int x] : List Value).toArray) (QcRead (bcI x)) 0 0 (fun _ => False) := by
  refine mS 1 (by decide) rfl (Nat.le_of_ble_eq_true rfl) ?_
  intro p e s m below meth c hx hb hml hr hlk hts hown ls hl
  have hC := (⟨hx, hb, hml, hown, hts⟩ : CallFix p m c cJ6_bitCount_0f7a4 1 s _ wsJ6_bitCount_0f7a4 RJ6)
  have hl : lv_has ls 1 [(0, .int (x))] := hl
  refine lv_iload_n hx hb dJ6_bitCount_0f7a4_0 rfl (lv_at hl 0 rfl) ?_
  refine lv_iload_n hx hb dJ6_bitCount_0f7a4_1 rfl (lv_at hl 0 rfl) ?_
  refine lv_iconst (v := 1) hx hb dJ6_bitCount_0f7a4_2 (by decide) ?_
  refine lv_iushr hx hb dJ6_bitCount_0f7a4_3 rfl ?_
  refine lv_ldcw (v := 1431655765) hx hb hown (hts (.constant RJ6 265 (1431655765)) (by decide +kernel)) dJ6_bitCount_0f7a4_4 ?_
  refine lv_iand hx hb dJ6_bitCount_0f7a4_7 ?_
  refine lv_isub hx hb dJ6_bitCount_0f7a4_8 ?_
  refine lv_istore_n (lv' := [(0, .int (x - (((x.toUInt32 >>> (((1 : Int32)).toUInt32 &&& Int32.toUInt32 31)).toInt32) &&& ((1431655765 : Int32)))))]) hx hb dJ6_bitCount_0f7a4_9 rfl hl (by decide) rfl (fun ls hl => ?_)
  refine lv_iload_n hx hb dJ6_bitCount_0f7a4_10 rfl (lv_at hl 0 rfl) ?_
  refine lv_ldcw (v := 858993459) hx hb hown (hts (.constant RJ6 266 (858993459)) (by decide +kernel)) dJ6_bitCount_0f7a4_11 ?_
  refine lv_iand hx hb dJ6_bitCount_0f7a4_14 ?_
  refine lv_iload_n hx hb dJ6_bitCount_0f7a4_15 rfl (lv_at hl 0 rfl) ?_
  refine lv_iconst (v := 2) hx hb dJ6_bitCount_0f7a4_16 (by decide) ?_
  refine lv_iushr hx hb dJ6_bitCount_0f7a4_17 rfl ?_
  refine lv_ldcw (v := 858993459) hx hb hown (hts (.constant RJ6 266 (858993459)) (by decide +kernel)) dJ6_bitCount_0f7a4_18 ?_
  refine lv_iand hx hb dJ6_bitCount_0f7a4_21 ?_
  refine lv_iadd hx hb dJ6_bitCount_0f7a4_22 ?_
  refine lv_istore_n (lv' := [(0, .int (((x - (((x.toUInt32 >>> (((1 : Int32)).toUInt32 &&& Int32.toUInt32 31)).toInt32) &&& ((1431655765 : Int32)))) &&& ((858993459 : Int32))) + ((((x - (((x.toUInt32 >>> (((1 : Int32)).toUInt32 &&& Int32.toUInt32 31)).toInt32) &&& ((1431655765 : Int32)))).toUInt32 >>> (((2 : Int32)).toUInt32 &&& Int32.toUInt32 31)).toInt32) &&& ((858993459 : Int32)))))]) hx hb dJ6_bitCount_0f7a4_23 rfl hl (by decide) rfl (fun ls hl => ?_)
  refine lv_iload_n hx hb dJ6_bitCount_0f7a4_24 rfl (lv_at hl 0 rfl) ?_
  refine lv_iload_n hx hb dJ6_bitCount_0f7a4_25 rfl (lv_at hl 0 rfl) ?_
  refine lv_iconst (v := 4) hx hb dJ6_bitCount_0f7a4_26 (by decide) ?_
  refine lv_iushr hx hb dJ6_bitCount_0f7a4_27 rfl ?_
  refine lv_iadd hx hb dJ6_bitCount_0f7a4_28 ?_
  refine lv_ldcw (v := 252645135) hx hb hown (hts (.constant RJ6 267 (252645135)) (by decide +kernel)) dJ6_bitCount_0f7a4_29 ?_
  refine lv_iand hx hb dJ6_bitCount_0f7a4_32 ?_
  refine lv_istore_n (lv' := [(0, .int (((((x - (((x.toUInt32 >>> (((1 : Int32)).toUInt32 &&& Int32.toUInt32 31)).toInt32) &&& ((1431655765 : Int32)))) &&& ((858993459 : Int32))) + ((((x - (((x.toUInt32 >>> (((1 : Int32)).toUInt32 &&& Int32.toUInt32 31)).toInt32) &&& ((1431655765 : Int32)))).toUInt32 >>> (((2 : Int32)).toUInt32 &&& Int32.toUInt32 31)).toInt32) &&& ((858993459 : Int32)))) + (((((x - (((x.toUInt32 >>> (((1 : Int32)).toUInt32 &&& Int32.toUInt32 31)).toInt32) &&& ((1431655765 : Int32)))) &&& ((858993459 : Int32))) + ((((x - (((x.toUInt32 >>> (((1 : Int32)).toUInt32 &&& Int32.toUInt32 31)).toInt32) &&& ((1431655765 : Int32)))).toUInt32 >>> (((2 : Int32)).toUInt32 &&& Int32.toUInt32 31)).toInt32) &&& ((858993459 : Int32)))).toUInt32 >>> (((4 : Int32)).toUInt32 &&& Int32.toUInt32 31)).toInt32)) &&& ((252645135 : Int32))))]) hx hb dJ6_bitCount_0f7a4_33 rfl hl (by decide) rfl (fun ls hl => ?_)
  refine lv_iload_n hx hb dJ6_bitCount_0f7a4_34 rfl (lv_at hl 0 rfl) ?_
  refine lv_iload_n hx hb dJ6_bitCount_0f7a4_35 rfl (lv_at hl 0 rfl) ?_
  refine lv_bipush (v := 8) hx hb dJ6_bitCount_0f7a4_36 (by decide) ?_
  refine lv_iushr hx hb dJ6_bitCount_0f7a4_38 rfl ?_
  refine lv_iadd hx hb dJ6_bitCount_0f7a4_39 ?_
  refine lv_istore_n (lv' := [(0, .int ((((((x - (((x.toUInt32 >>> (((1 : Int32)).toUInt32 &&& Int32.toUInt32 31)).toInt32) &&& ((1431655765 : Int32)))) &&& ((858993459 : Int32))) + ((((x - (((x.toUInt32 >>> (((1 : Int32)).toUInt32 &&& Int32.toUInt32 31)).toInt32) &&& ((1431655765 : Int32)))).toUInt32 >>> (((2 : Int32)).toUInt32 &&& Int32.toUInt32 31)).toInt32) &&& ((858993459 : Int32)))) + (((((x - (((x.toUInt32 >>> (((1 : Int32)).toUInt32 &&& Int32.toUInt32 31)).toInt32) &&& ((1431655765 : Int32)))) &&& ((858993459 : Int32))) + ((((x - (((x.toUInt32 >>> (((1 : Int32)).toUInt32 &&& Int32.toUInt32 31)).toInt32) &&& ((1431655765 : Int32)))).toUInt32 >>> (((2 : Int32)).toUInt32 &&& Int32.toUInt32 31)).toInt32) &&& ((858993459 : Int32)))).toUInt32 >>> (((4 : Int32)).toUInt32 &&& Int32.toUInt32 31)).toInt32)) &&& ((252645135 : Int32))) + (((((((x - (((x.toUInt32 >>> (((1 : Int32)).toUInt32 &&& Int32.toUInt32 31)).toInt32) &&& ((1431655765 : Int32)))) &&& ((858993459 : Int32))) + ((((x - (((x.toUInt32 >>> (((1 : Int32)).toUInt32 &&& Int32.toUInt32 31)).toInt32) &&& ((1431655765 : Int32)))).toUInt32 >>> (((2 : Int32)).toUInt32 &&& Int32.toUInt32 31)).toInt32) &&& ((858993459 : Int32)))) + (((((x - (((x.toUInt32 >>> (((1 : Int32)).toUInt32 &&& Int32.toUInt32 31)).toInt32) &&& ((1431655765 : Int32)))) &&& ((858993459 : Int32))) + ((((x - (((x.toUInt32 >>> (((1 : Int32)).toUInt32 &&& Int32.toUInt32 31)).toInt32) &&& ((1431655765 : Int32)))).toUInt32 >>> (((2 : Int32)).toUInt32 &&& Int32.toUInt32 31)).toInt32) &&& ((858993459 : Int32)))).toUInt32 >>> (((4 : Int32)).toUInt32 &&& Int32.toUInt32 31)).toInt32)) &&& ((252645135 : Int32))).toUInt32 >>> (((8 : Int32)).toUInt32 &&& Int32.toUInt32 31)).toInt32)))]) hx hb dJ6_bitCount_0f7a4_40 rfl hl (by decide) rfl (fun ls hl => ?_)
  refine lv_iload_n hx hb dJ6_bitCount_0f7a4_41 rfl (lv_at hl 0 rfl) ?_
  refine lv_iload_n hx hb dJ6_bitCount_0f7a4_42 rfl (lv_at hl 0 rfl) ?_
  refine lv_bipush (v := 16) hx hb dJ6_bitCount_0f7a4_43 (by decide) ?_
  refine lv_iushr hx hb dJ6_bitCount_0f7a4_45 rfl ?_
  refine lv_iadd hx hb dJ6_bitCount_0f7a4_46 ?_
  refine lv_istore_n (lv' := [(0, .int (((((((x - (((x.toUInt32 >>> (((1 : Int32)).toUInt32 &&& Int32.toUInt32 31)).toInt32) &&& ((1431655765 : Int32)))) &&& ((858993459 : Int32))) + ((((x - (((x.toUInt32 >>> (((1 : Int32)).toUInt32 &&& Int32.toUInt32 31)).toInt32) &&& ((1431655765 : Int32)))).toUInt32 >>> (((2 : Int32)).toUInt32 &&& Int32.toUInt32 31)).toInt32) &&& ((858993459 : Int32)))) + (((((x - (((x.toUInt32 >>> (((1 : Int32)).toUInt32 &&& Int32.toUInt32 31)).toInt32) &&& ((1431655765 : Int32)))) &&& ((858993459 : Int32))) + ((((x - (((x.toUInt32 >>> (((1 : Int32)).toUInt32 &&& Int32.toUInt32 31)).toInt32) &&& ((1431655765 : Int32)))).toUInt32 >>> (((2 : Int32)).toUInt32 &&& Int32.toUInt32 31)).toInt32) &&& ((858993459 : Int32)))).toUInt32 >>> (((4 : Int32)).toUInt32 &&& Int32.toUInt32 31)).toInt32)) &&& ((252645135 : Int32))) + (((((((x - (((x.toUInt32 >>> (((1 : Int32)).toUInt32 &&& Int32.toUInt32 31)).toInt32) &&& ((1431655765 : Int32)))) &&& ((858993459 : Int32))) + ((((x - (((x.toUInt32 >>> (((1 : Int32)).toUInt32 &&& Int32.toUInt32 31)).toInt32) &&& ((1431655765 : Int32)))).toUInt32 >>> (((2 : Int32)).toUInt32 &&& Int32.toUInt32 31)).toInt32) &&& ((858993459 : Int32)))) + (((((x - (((x.toUInt32 >>> (((1 : Int32)).toUInt32 &&& Int32.toUInt32 31)).toInt32) &&& ((1431655765 : Int32)))) &&& ((858993459 : Int32))) + ((((x - (((x.toUInt32 >>> (((1 : Int32)).toUInt32 &&& Int32.toUInt32 31)).toInt32) &&& ((1431655765 : Int32)))).toUInt32 >>> (((2 : Int32)).toUInt32 &&& Int32.toUInt32 31)).toInt32) &&& ((858993459 : Int32)))).toUInt32 >>> (((4 : Int32)).toUInt32 &&& Int32.toUInt32 31)).toInt32)) &&& ((252645135 : Int32))).toUInt32 >>> (((8 : Int32)).toUInt32 &&& Int32.toUInt32 31)).toInt32)) + ((((((((x - (((x.toUInt32 >>> (((1 : Int32)).toUInt32 &&& Int32.toUInt32 31)).toInt32) &&& ((1431655765 : Int32)))) &&& ((858993459 : Int32))) + ((((x - (((x.toUInt32 >>> (((1 : Int32)).toUInt32 &&& Int32.toUInt32 31)).toInt32) &&& ((1431655765 : Int32)))).toUInt32 >>> (((2 : Int32)).toUInt32 &&& Int32.toUInt32 31)).toInt32) &&& ((858993459 : Int32)))) + (((((x - (((x.toUInt32 >>> (((1 : Int32)).toUInt32 &&& Int32.toUInt32 31)).toInt32) &&& ((1431655765 : Int32)))) &&& ((858993459 : Int32))) + ((((x - (((x.toUInt32 >>> (((1 : Int32)).toUInt32 &&& Int32.toUInt32 31)).toInt32) &&& ((1431655765 : Int32)))).toUInt32 >>> (((2 : Int32)).toUInt32 &&& Int32.toUInt32 31)).toInt32) &&& ((858993459 : Int32)))).toUInt32 >>> (((4 : Int32)).toUInt32 &&& Int32.toUInt32 31)).toInt32)) &&& ((252645135 : Int32))) + (((((((x - (((x.toUInt32 >>> (((1 : Int32)).toUInt32 &&& Int32.toUInt32 31)).toInt32) &&& ((1431655765 : Int32)))) &&& ((858993459 : Int32))) + ((((x - (((x.toUInt32 >>> (((1 : Int32)).toUInt32 &&& Int32.toUInt32 31)).toInt32) &&& ((1431655765 : Int32)))).toUInt32 >>> (((2 : Int32)).toUInt32 &&& Int32.toUInt32 31)).toInt32) &&& ((858993459 : Int32)))) + (((((x - (((x.toUInt32 >>> (((1 : Int32)).toUInt32 &&& Int32.toUInt32 31)).toInt32) &&& ((1431655765 : Int32)))) &&& ((858993459 : Int32))) + ((((x - (((x.toUInt32 >>> (((1 : Int32)).toUInt32 &&& Int32.toUInt32 31)).toInt32) &&& ((1431655765 : Int32)))).toUInt32 >>> (((2 : Int32)).toUInt32 &&& Int32.toUInt32 31)).toInt32) &&& ((858993459 : Int32)))).toUInt32 >>> (((4 : Int32)).toUInt32 &&& Int32.toUInt32 31)).toInt32)) &&& ((252645135 : Int32))).toUInt32 >>> (((8 : Int32)).toUInt32 &&& Int32.toUInt32 31)).toInt32)).toUInt32 >>> (((16 : Int32)).toUInt32 &&& Int32.toUInt32 31)).toInt32)))]) hx hb dJ6_bitCount_0f7a4_47 rfl hl (by decide) rfl (fun ls hl => ?_)
  refine lv_iload_n hx hb dJ6_bitCount_0f7a4_48 rfl (lv_at hl 0 rfl) ?_
  refine lv_bipush (v := 63) hx hb dJ6_bitCount_0f7a4_49 (by decide) ?_
  refine lv_iand hx hb dJ6_bitCount_0f7a4_51 ?_
  exact rI hx hb hr hlk rfl dJ6_bitCount_0f7a4_52 rfl

set_option maxHeartbeats 4000000 in
set_option maxRecDepth 100000 in
theorem kX0_leaning {l : Launch}  (b : Int32) (d : Int32)  : Met l yX0_leaning wsX0_leaning { frames := 1, cells := 0, slots := 0, locals := 20 } (fun v _ => v = ([.int b, .int d] : List Value).toArray) (QcRead (leanI b d)) 0 0 (fun _ => False) := by
  refine mS 2 (by decide) rfl (Nat.le_of_ble_eq_true rfl) ?_
  intro p e s m below meth c hx hb hml hr hlk hts hown ls hl
  have hC := (⟨hx, hb, hml, hown, hts⟩ : CallFix p m c cX0_leaning 2 s _ wsX0_leaning RX0)
  have hl : lv_has ls 2 [(0, .int (b)), (1, .int (d))] := hl
  refine lv_iconst (v := 2) hx hb dX0_leaning_0 (by decide) ?_
  refine lv_iload_n hx hb dX0_leaning_1 rfl (lv_at hl 0 rfl) ?_
  refine lv_iload_n hx hb dX0_leaning_2 rfl (lv_at hl 1 rfl) ?_
  refine lv_iand hx hb dX0_leaning_3 ?_
  refine cS (As := [.int (b &&& d)]) hC (kJ6_bitCount_0f7a4 (b &&& d) ) [.int (2)] (va_cwS 1 hts gX0_leaning_J6_bitCount_0f7a4 rfl rfl rfl (by decide +kernel) ⟨Nat.le_of_ble_eq_true rfl, Nat.le_of_ble_eq_true rfl⟩) rfl hl.1 rfl (Nat.le_of_ble_eq_true rfl) dX0_leaning_4 ⟨Nat.zero_le _, Nat.zero_le _⟩ ?_
  refine lv_imul hx hb dX0_leaning_7 ?_
  refine lv_iload_n hx hb dX0_leaning_8 rfl (lv_at hl 0 rfl) ?_
  refine cS (As := [.int (b)]) hC (kJ6_bitCount_0f7a4 b ) [.int ((2 : Int32) * (bcI (b &&& d)))] (va_cwS 1 hts gX0_leaning_J6_bitCount_0f7a4 rfl rfl rfl (by decide +kernel) ⟨Nat.le_of_ble_eq_true rfl, Nat.le_of_ble_eq_true rfl⟩) rfl hl.1 rfl (Nat.le_of_ble_eq_true rfl) dX0_leaning_9 ⟨Nat.zero_le _, Nat.zero_le _⟩ ?_
  refine lv_isub hx hb dX0_leaning_12 ?_
  exact rI hx hb hr hlk rfl dX0_leaning_13 rfl

theorem hdX0_offOf : yX0_offOf.cls = RX0 ∧ yX0_offOf.cls ≠ "java/lang/invoke/MethodHandle" ∧ yX0_offOf.cls ≠ "java/lang/invoke/VarHandle" ∧ (parseMethodDescriptor yX0_offOf.desc).map (fun d => d.parameters.length) = some 2 := by decide +kernel
set_option maxHeartbeats 4000000 in
set_option maxRecDepth 100000 in
theorem kX0_offOf {l : Launch} {D : va_G} {cy : ClassId} {H : Heap} {q : Nat → Nat} {gT gC : Int32} {ak : Int64} {ta pl cp kd fa fb bm sx sy : Nat → Int32} {N K S : Nat}  (hP : va_P D vwCl (wX cy q (nI N) gT gC (nI K) (nI S) ak ta pl cp kd fa fb bm sx sy) H) (k : Int32) (j : Nat) (hj : j < 10) : Met l yX0_offOf wsX0_offOf { frames := 2, cells := 0, slots := 0, locals := 41 } (pcK D cy H [.ref (q 0), .int k, .int (nI j)]) (QcRead (absI (leanI (bm j) k))) 0 0 (fun _ => False) := by
  refine mV 3 (by decide) rfl (Nat.le_of_ble_eq_true rfl) ?_
  intro p e s m below meth c hx hb hml hr hlk hts hown hnm hK hH ls hl
  have hC := (⟨hx, hb, hml, hown, hts⟩ : CallFix p m c cX0_offOf 3 s _ wsX0_offOf RX0)
  have hin : ∀ w ∈ wsX00, w ∈ wsX0_offOf := by decide +kernel
  have L41 : Cond.fieldLink RX0 41 "TwoColours" "heapBits" "[I" ∈ wsX0_offOf := by decide +kernel
  have hl : lv_has ls 3 [(0, .ref (q 0)), (1, .int (k)), (2, .int (nI j))] := hl
  refine lv_aload_n hx hb dX0_offOf_0 rfl (lv_at hl 0 rfl) ?_
  refine gX_heapBits hx hb hts hin hown hK hP L41 dX0_offOf_1 ?_
  refine lv_iload_n hx hb dX0_offOf_4 rfl (lv_at hl 2 rfl) ?_
  refine ldX_heapBits (j := j) hx hb hK hP rfl (by omega) dX0_offOf_5 ?_
  refine lv_iload_n hx hb dX0_offOf_6 rfl (lv_at hl 1 rfl) ?_
  refine cS (As := [.int (bm j), .int (k)]) hC (kX0_leaning (bm j) k ) [] (va_cwS 2 hts gX0_offOf_X0_leaning rfl rfl rfl (by decide +kernel) ⟨Nat.le_of_ble_eq_true rfl, Nat.le_of_ble_eq_true rfl⟩) rfl hl.1 rfl (Nat.le_of_ble_eq_true rfl) dX0_offOf_7 ⟨Nat.zero_le _, Nat.zero_le _⟩ ?_
  refine va_mabs hx hb (hml.trans hl.1.symm) hown (hts (.methodLink RX0 148 Lib.Math.abs.name) (by decide +kernel)) (hts (.static Lib.Math.abs.name) (by decide +kernel)) (hts (.initialized "java/lang/Math") (by decide +kernel)) (hts (.code Lib.Math.abs.name Lib.Math.abs.code 1 (some .int)) (by decide +kernel)) (Nat.le_of_ble_eq_true rfl) (Nat.le_of_ble_eq_true rfl) (Nat.zero_le _) (Nat.zero_le _) dX0_offOf_10 ?_
  exact rI hx hb hr hlk hH dX0_offOf_13 rfl

theorem hdX0_worstOf : yX0_worstOf.cls = RX0 ∧ yX0_worstOf.cls ≠ "java/lang/invoke/MethodHandle" ∧ yX0_worstOf.cls ≠ "java/lang/invoke/VarHandle" ∧ (parseMethodDescriptor yX0_worstOf.desc).map (fun d => d.parameters.length) = some 1 := by decide +kernel
set_option maxHeartbeats 4000000 in
set_option maxRecDepth 100000 in
theorem kX0_worstOf {l : Launch} {D : va_G} {cy : ClassId} {H : Heap} {q : Nat → Nat} {gT gC : Int32} {ak : Int64} {ta pl cp kd fa fb bm sx sy : Nat → Int32} {N K S : Nat}  (hP : va_P D vwCl (wX cy q (nI N) gT gC (nI K) (nI S) ak ta pl cp kd fa fb bm sx sy) H) (k : Int32) (hKn : K ≤ 10) : Met l yX0_worstOf wsX0_worstOf { frames := 3, cells := 0, slots := 0, locals := 63 } (pcK D cy H [.ref (q 0), .int k]) (QcRead (woF bm k K)) 0 0 (fun _ => False) := by
  refine mV 4 (by decide) rfl (Nat.le_of_ble_eq_true rfl) ?_
  intro p e s m below meth c hx hb hml hr hlk hts hown hnm hK hH ls hl
  have hC := (⟨hx, hb, hml, hown, hts⟩ : CallFix p m c cX0_worstOf 4 s _ wsX0_worstOf RX0)
  have hin : ∀ w ∈ wsX00, w ∈ wsX0_worstOf := by decide +kernel
  have L29 : Cond.fieldLink RX0 29 "TwoColours" "heapCount" "I" ∈ wsX0_worstOf := by decide +kernel
  have hl : lv_has ls 4 [(0, .ref (q 0)), (1, .int (k))] := hl
  refine lv_iconst (v := 0) hx hb dX0_worstOf_0 (by decide) ?_
  refine lv_istore_n (lv' := [(2, .int (0)), (0, .ref (q 0)), (1, .int (k))]) hx hb dX0_worstOf_1 rfl hl (by decide) rfl (fun ls hl => ?_)
  refine lv_iconst (v := 0) hx hb dX0_worstOf_2 (by decide) ?_
  refine lv_istore_n (lv' := [(3, .int (0)), (2, .int (0)), (0, .ref (q 0)), (1, .int (k))]) hx hb dX0_worstOf_3 rfl hl (by decide) rfl (fun ls hl => ?_)
  refine lpP 4 (fun i ls => lv_has ls 4 [(0, .ref (q 0)), (1, .int (k)), (2, .int (woF bm k i)), (3, .int (nI i))]) (K) ?_ (0) ls (by omega) (lv_sub hl [2, 3, 1, 0] rfl)
  intro i ls hi hl ih_4
  refine lv_iload_n hx hb dX0_worstOf_4 rfl (lv_at hl 3 rfl) ?_
  refine lv_aload_n hx hb dX0_worstOf_5 rfl (lv_at hl 0 rfl) ?_
  refine gX_heapCount hx hb hts hin hown hK hP L29 dX0_worstOf_6 ?_
  refine lv_icmp_ge (tgt := 29) hx hb dX0_worstOf_9 (by decide) (fun cz1 => ?_) (fun cz1 => ?_)
  · have cz1 : K ≤ i := (nI_leI (a := K) (b := i) (by omega) (by omega)).mp cz1
    refine lv_iload_n hx hb dX0_worstOf_29 rfl (lv_at hl 2 rfl) ?_
    exact rI hx hb hr hlk hH dX0_worstOf_30 (by rw [show i = K by omega])
  · have cz1 : ¬ K ≤ i := fun h => cz1 ((nI_leI (a := K) (b := i) (by omega) (by omega)).mpr h)
    refine lv_iload_n hx hb dX0_worstOf_12 rfl (lv_at hl 2 rfl) ?_
    refine lv_aload_n hx hb dX0_worstOf_13 rfl (lv_at hl 0 rfl) ?_
    refine lv_iload_n hx hb dX0_worstOf_14 rfl (lv_at hl 1 rfl) ?_
    refine lv_iload_n hx hb dX0_worstOf_15 rfl (lv_at hl 3 rfl) ?_
    refine cV (As := [.int (k), .int (nI i)]) hC hK hP rfl rfl (kX0_offOf hP k i (by omega)) [.int (woF bm k i)] (cwV 2 hts gX0_worstOf_X0_offOf rfl rfl rfl hdX0_offOf ⟨Nat.le_of_ble_eq_true rfl, Nat.le_of_ble_eq_true rfl⟩) rfl hl.1 rfl (Nat.le_of_ble_eq_true rfl) dX0_worstOf_16 ⟨Nat.zero_le _, Nat.zero_le _⟩ ?_
    refine va_mmax hx hb (hml.trans hl.1.symm) hown (hts (.methodLink RX0 109 Lib.Math.max.name) (by decide +kernel)) (hts (.static Lib.Math.max.name) (by decide +kernel)) (hts (.initialized "java/lang/Math") (by decide +kernel)) (hts (.code Lib.Math.max.name Lib.Math.max.code 2 (some .int)) (by decide +kernel)) (Nat.le_of_ble_eq_true rfl) (Nat.le_of_ble_eq_true rfl) (Nat.zero_le _) (Nat.zero_le _) dX0_worstOf_19 ?_
    refine lv_istore_n (lv' := [(2, .int (maxI (woF bm k i) (absI (leanI (bm i) k)))), (0, .ref (q 0)), (1, .int (k)), (3, .int (nI i))]) hx hb dX0_worstOf_22 rfl hl (by decide) rfl (fun ls hl => ?_)
    refine lv_iinc (v := nI (i + 1)) (lv' := [(3, .int (nI (i + 1))), (2, .int (maxI (woF bm k i) (absI (leanI (bm i) k)))), (0, .ref (q 0)), (1, .int (k))]) hx hb dX0_worstOf_23 hl (k := 3) rfl (nI_1 _) (by decide) rfl (fun ls hl => ?_)
    refine lv_goto (tgt := 4) hx hb dX0_worstOf_26 (by decide) ?_
    exact ih_4 _ (by omega) (lv_sub hl [2, 3, 1, 0] rfl)

theorem hdX0_squaresOf : yX0_squaresOf.cls = RX0 ∧ yX0_squaresOf.cls ≠ "java/lang/invoke/MethodHandle" ∧ yX0_squaresOf.cls ≠ "java/lang/invoke/VarHandle" ∧ (parseMethodDescriptor yX0_squaresOf.desc).map (fun d => d.parameters.length) = some 1 := by decide +kernel
set_option maxHeartbeats 4000000 in
set_option maxRecDepth 100000 in
theorem kX0_squaresOf {l : Launch} {D : va_G} {cy : ClassId} {H : Heap} {q : Nat → Nat} {gT gC : Int32} {ak : Int64} {ta pl cp kd fa fb bm sx sy : Nat → Int32} {N K S : Nat}  (hP : va_P D vwCl (wX cy q (nI N) gT gC (nI K) (nI S) ak ta pl cp kd fa fb bm sx sy) H) (k : Int32) (hKn : K ≤ 10) : Met l yX0_squaresOf wsX0_squaresOf { frames := 3, cells := 0, slots := 0, locals := 63 } (pcK D cy H [.ref (q 0), .int k]) (QcRead (sqF bm k K)) 0 0 (fun _ => False) := by
  refine mV 5 (by decide) rfl (Nat.le_of_ble_eq_true rfl) ?_
  intro p e s m below meth c hx hb hml hr hlk hts hown hnm hK hH ls hl
  have hC := (⟨hx, hb, hml, hown, hts⟩ : CallFix p m c cX0_squaresOf 5 s _ wsX0_squaresOf RX0)
  have hin : ∀ w ∈ wsX00, w ∈ wsX0_squaresOf := by decide +kernel
  have L29 : Cond.fieldLink RX0 29 "TwoColours" "heapCount" "I" ∈ wsX0_squaresOf := by decide +kernel
  have hl : lv_has ls 5 [(0, .ref (q 0)), (1, .int (k))] := hl
  refine lv_iconst (v := 0) hx hb dX0_squaresOf_0 (by decide) ?_
  refine lv_istore_n (lv' := [(2, .int (0)), (0, .ref (q 0)), (1, .int (k))]) hx hb dX0_squaresOf_1 rfl hl (by decide) rfl (fun ls hl => ?_)
  refine lv_iconst (v := 0) hx hb dX0_squaresOf_2 (by decide) ?_
  refine lv_istore_n (lv' := [(3, .int (0)), (2, .int (0)), (0, .ref (q 0)), (1, .int (k))]) hx hb dX0_squaresOf_3 rfl hl (by decide) rfl (fun ls hl => ?_)
  refine lpP 4 (fun i ls => lv_has ls 5 [(0, .ref (q 0)), (1, .int (k)), (2, .int (sqF bm k i)), (3, .int (nI i))]) (K) ?_ (0) ls (by omega) (lv_sub hl [2, 3, 1, 0] rfl)
  intro i ls hi hl ih_4
  refine lv_iload_n hx hb dX0_squaresOf_4 rfl (lv_at hl 3 rfl) ?_
  refine lv_aload_n hx hb dX0_squaresOf_5 rfl (lv_at hl 0 rfl) ?_
  refine gX_heapCount hx hb hts hin hown hK hP L29 dX0_squaresOf_6 ?_
  refine lv_icmp_ge (tgt := 34) hx hb dX0_squaresOf_9 (by decide) (fun cz1 => ?_) (fun cz1 => ?_)
  · have cz1 : K ≤ i := (nI_leI (a := K) (b := i) (by omega) (by omega)).mp cz1
    refine lv_iload_n hx hb dX0_squaresOf_34 rfl (lv_at hl 2 rfl) ?_
    exact rI hx hb hr hlk hH dX0_squaresOf_35 (by rw [show i = K by omega])
  · have cz1 : ¬ K ≤ i := fun h => cz1 ((nI_leI (a := K) (b := i) (by omega) (by omega)).mpr h)
    refine lv_aload_n hx hb dX0_squaresOf_12 rfl (lv_at hl 0 rfl) ?_
    refine lv_iload_n hx hb dX0_squaresOf_13 rfl (lv_at hl 1 rfl) ?_
    refine lv_iload_n hx hb dX0_squaresOf_14 rfl (lv_at hl 3 rfl) ?_
    refine cV (As := [.int (k), .int (nI i)]) hC hK hP rfl rfl (kX0_offOf hP k i (by omega)) [] (cwV 2 hts gX0_squaresOf_X0_offOf rfl rfl rfl hdX0_offOf ⟨Nat.le_of_ble_eq_true rfl, Nat.le_of_ble_eq_true rfl⟩) rfl hl.1 rfl (Nat.le_of_ble_eq_true rfl) dX0_squaresOf_15 ⟨Nat.zero_le _, Nat.zero_le _⟩ ?_
    refine lv_istore (lv' := [(4, .int (absI (leanI (bm i) k))), (0, .ref (q 0)), (1, .int (k)), (2, .int (sqF bm k i)), (3, .int (nI i))]) hx hb dX0_squaresOf_18 hl (by decide) rfl (fun ls hl => ?_)
    refine lv_iload_n hx hb dX0_squaresOf_20 rfl (lv_at hl 3 rfl) ?_
    refine lv_iload hx hb dX0_squaresOf_21 (lv_at hl 0 rfl) ?_
    refine lv_iload hx hb dX0_squaresOf_23 (lv_at hl 0 rfl) ?_
    refine lv_imul hx hb dX0_squaresOf_25 ?_
    refine lv_iadd hx hb dX0_squaresOf_26 ?_
    refine lv_istore_n (lv' := [(2, .int ((sqF bm k i) + ((absI (leanI (bm i) k)) * (absI (leanI (bm i) k))))), (4, .int (absI (leanI (bm i) k))), (0, .ref (q 0)), (1, .int (k)), (3, .int (nI i))]) hx hb dX0_squaresOf_27 rfl hl (by decide) rfl (fun ls hl => ?_)
    refine lv_iinc (v := nI (i + 1)) (lv' := [(3, .int (nI (i + 1))), (2, .int ((sqF bm k i) + ((absI (leanI (bm i) k)) * (absI (leanI (bm i) k))))), (4, .int (absI (leanI (bm i) k))), (0, .ref (q 0)), (1, .int (k))]) hx hb dX0_squaresOf_28 hl (k := 4) rfl (nI_1 _) (by decide) rfl (fun ls hl => ?_)
    refine lv_goto (tgt := 4) hx hb dX0_squaresOf_31 (by decide) ?_
    exact ih_4 _ (by omega) (lv_sub hl [3, 4, 1, 0] rfl)
end
section
theorem hdX0_off : yX0_off.cls = RX0 ∧ yX0_off.cls ≠ "java/lang/invoke/MethodHandle" ∧ yX0_off.cls ≠ "java/lang/invoke/VarHandle" ∧ (parseMethodDescriptor yX0_off.desc).map (fun d => d.parameters.length) = some 2 := by decide +kernel
set_option maxHeartbeats 4000000 in
set_option maxRecDepth 100000 in
theorem kX0_off {l : Launch} {D : va_G} {cy : ClassId} {H : Heap} {q : Nat → Nat} {gT gC : Int32} {ak : Int64} {ta pl cp kd fa fb bm sx sy : Nat → Int32} {N K S : Nat}  (hP : va_P D vwCl (wX cy q (nI N) gT gC (nI K) (nI S) ak ta pl cp kd fa fb bm sx sy) H) (k : Int32) (h : Int32) (hN : N ≤ 12) (hKn : K ≤ 10) : Met l yX0_off wsX0_off { frames := 3, cells := 0, slots := 0, locals := 63 } (pcK D cy H [.ref (q 0), .int k, .int h]) (QcRead (if (0 ≤ k ∧ k < nI (2 ^ N)) ∧ (0 ≤ h ∧ h < nI K) then absI (leanI (bm (ix h)) k) else -1)) 0 0 (fun _ => False) := by
  refine mV 3 (by decide) rfl (Nat.le_of_ble_eq_true rfl) ?_
  intro p e s m below meth c hx hb hml hr hlk hts hown hnm hK hH ls hl
  have hC := (⟨hx, hb, hml, hown, hts⟩ : CallFix p m c cX0_off 3 s _ wsX0_off RX0)
  have hl : lv_has ls 3 [(0, .ref (q 0)), (1, .int (k)), (2, .int (h))] := hl
  refine lv_aload_n hx hb dX0_off_0 rfl (lv_at hl 0 rfl) ?_
  refine lv_iload_n hx hb dX0_off_1 rfl (lv_at hl 1 rfl) ?_
  refine cV (As := [.int (k)]) hC hK hP rfl rfl (kX0_isColouring hP k (by omega)) [] (cwV 1 hts gX0_off_X0_isColouring rfl rfl rfl hdX0_isColouring ⟨Nat.le_of_ble_eq_true rfl, Nat.le_of_ble_eq_true rfl⟩) rfl hl.1 rfl (Nat.le_of_ble_eq_true rfl) dX0_off_2 ⟨Nat.zero_le _, Nat.zero_le _⟩ ?_
  refine lv_if_eq (tgt := 25) hx hb dX0_off_5 (by decide) (fun cz1 => ?_) (fun cz1 => ?_)
  · have cz1 := b2_0 cz1
    refine lv_iconst (v := (-1)) hx hb dX0_off_25 (by decide) ?_
    exact rI hx hb hr hlk hH dX0_off_26 (by rw [if_neg (fun h => cz1 h.1)])
  · have cz1 := b2_1 cz1
    refine lv_aload_n hx hb dX0_off_8 rfl (lv_at hl 0 rfl) ?_
    refine lv_iload_n hx hb dX0_off_9 rfl (lv_at hl 2 rfl) ?_
    refine cV (As := [.int (h)]) hC hK hP rfl rfl (kX0_isHeap hP h ) [] (cwV 1 hts gX0_off_X0_isHeap rfl rfl rfl hdX0_isHeap ⟨Nat.le_of_ble_eq_true rfl, Nat.le_of_ble_eq_true rfl⟩) rfl hl.1 rfl (Nat.le_of_ble_eq_true rfl) dX0_off_10 ⟨Nat.zero_le _, Nat.zero_le _⟩ ?_
    refine lv_if_eq (tgt := 25) hx hb dX0_off_13 (by decide) (fun cz2 => ?_) (fun cz2 => ?_)
    · have cz2 := b2_0 cz2
      refine lv_iconst (v := (-1)) hx hb dX0_off_25 (by decide) ?_
      exact rI hx hb hr hlk hH dX0_off_26 (by rw [if_neg (fun h => cz2 h.2)])
    · have cz2 := b2_1 cz2
      obtain ⟨j, hj, ej⟩ := inN cz2 (by omega)
      subst ej
      refine lv_aload_n hx hb dX0_off_16 rfl (lv_at hl 0 rfl) ?_
      refine lv_iload_n hx hb dX0_off_17 rfl (lv_at hl 1 rfl) ?_
      refine lv_iload_n hx hb dX0_off_18 rfl (lv_at hl 2 rfl) ?_
      refine cV (As := [.int (k), .int (nI j)]) hC hK hP rfl rfl (kX0_offOf hP k j (by omega)) [] (cwV 2 hts gX0_off_X0_offOf rfl rfl rfl hdX0_offOf ⟨Nat.le_of_ble_eq_true rfl, Nat.le_of_ble_eq_true rfl⟩) rfl hl.1 rfl (Nat.le_of_ble_eq_true rfl) dX0_off_19 ⟨Nat.zero_le _, Nat.zero_le _⟩ ?_
      refine lv_goto (tgt := 26) hx hb dX0_off_22 (by decide) ?_
      exact rI hx hb hr hlk hH dX0_off_26 (by rw [if_pos ⟨cz1, cz2⟩, ix_nI (by omega)])

theorem hdX0_worst : yX0_worst.cls = RX0 ∧ yX0_worst.cls ≠ "java/lang/invoke/MethodHandle" ∧ yX0_worst.cls ≠ "java/lang/invoke/VarHandle" ∧ (parseMethodDescriptor yX0_worst.desc).map (fun d => d.parameters.length) = some 1 := by decide +kernel
set_option maxHeartbeats 4000000 in
set_option maxRecDepth 100000 in
theorem kX0_worst {l : Launch} {D : va_G} {cy : ClassId} {H : Heap} {q : Nat → Nat} {gT gC : Int32} {ak : Int64} {ta pl cp kd fa fb bm sx sy : Nat → Int32} {N K S : Nat}  (hP : va_P D vwCl (wX cy q (nI N) gT gC (nI K) (nI S) ak ta pl cp kd fa fb bm sx sy) H) (k : Int32) (hN : N ≤ 12) (hKn : K ≤ 10) : Met l yX0_worst wsX0_worst { frames := 4, cells := 0, slots := 0, locals := 86 } (pcK D cy H [.ref (q 0), .int k]) (QcRead (if 0 ≤ k ∧ k < nI (2 ^ N) then woF bm k K else -1)) 0 0 (fun _ => False) := by
  refine mV 2 (by decide) rfl (Nat.le_of_ble_eq_true rfl) ?_
  intro p e s m below meth c hx hb hml hr hlk hts hown hnm hK hH ls hl
  have hC := (⟨hx, hb, hml, hown, hts⟩ : CallFix p m c cX0_worst 2 s _ wsX0_worst RX0)
  have hl : lv_has ls 2 [(0, .ref (q 0)), (1, .int (k))] := hl
  refine lv_aload_n hx hb dX0_worst_0 rfl (lv_at hl 0 rfl) ?_
  refine lv_iload_n hx hb dX0_worst_1 rfl (lv_at hl 1 rfl) ?_
  refine cV (As := [.int (k)]) hC hK hP rfl rfl (kX0_isColouring hP k (by omega)) [] (cwV 1 hts gX0_worst_X0_isColouring rfl rfl rfl hdX0_isColouring ⟨Nat.le_of_ble_eq_true rfl, Nat.le_of_ble_eq_true rfl⟩) rfl hl.1 rfl (Nat.le_of_ble_eq_true rfl) dX0_worst_2 ⟨Nat.zero_le _, Nat.zero_le _⟩ ?_
  refine lv_if_eq (tgt := 16) hx hb dX0_worst_5 (by decide) (fun cz1 => ?_) (fun cz1 => ?_)
  · have cz1 := b2_0 cz1
    refine lv_iconst (v := (-1)) hx hb dX0_worst_16 (by decide) ?_
    exact rI hx hb hr hlk hH dX0_worst_17 (by rw [if_neg (by assumption)])
  · have cz1 := b2_1 cz1
    refine lv_aload_n hx hb dX0_worst_8 rfl (lv_at hl 0 rfl) ?_
    refine lv_iload_n hx hb dX0_worst_9 rfl (lv_at hl 1 rfl) ?_
    refine cV (As := [.int (k)]) hC hK hP rfl rfl (kX0_worstOf hP k (by omega)) [] (cwV 1 hts gX0_worst_X0_worstOf rfl rfl rfl hdX0_worstOf ⟨Nat.le_of_ble_eq_true rfl, Nat.le_of_ble_eq_true rfl⟩) rfl hl.1 rfl (Nat.le_of_ble_eq_true rfl) dX0_worst_10 ⟨Nat.zero_le _, Nat.zero_le _⟩ ?_
    refine lv_goto (tgt := 17) hx hb dX0_worst_13 (by decide) ?_
    exact rI hx hb hr hlk hH dX0_worst_17 (by rw [if_pos (by assumption)])

theorem hdX0_squares : yX0_squares.cls = RX0 ∧ yX0_squares.cls ≠ "java/lang/invoke/MethodHandle" ∧ yX0_squares.cls ≠ "java/lang/invoke/VarHandle" ∧ (parseMethodDescriptor yX0_squares.desc).map (fun d => d.parameters.length) = some 1 := by decide +kernel
set_option maxHeartbeats 4000000 in
set_option maxRecDepth 100000 in
theorem kX0_squares {l : Launch} {D : va_G} {cy : ClassId} {H : Heap} {q : Nat → Nat} {gT gC : Int32} {ak : Int64} {ta pl cp kd fa fb bm sx sy : Nat → Int32} {N K S : Nat}  (hP : va_P D vwCl (wX cy q (nI N) gT gC (nI K) (nI S) ak ta pl cp kd fa fb bm sx sy) H) (k : Int32) (hN : N ≤ 12) (hKn : K ≤ 10) : Met l yX0_squares wsX0_squares { frames := 4, cells := 0, slots := 0, locals := 87 } (pcK D cy H [.ref (q 0), .int k]) (QcRead (if 0 ≤ k ∧ k < nI (2 ^ N) then sqF bm k K else -1)) 0 0 (fun _ => False) := by
  refine mV 2 (by decide) rfl (Nat.le_of_ble_eq_true rfl) ?_
  intro p e s m below meth c hx hb hml hr hlk hts hown hnm hK hH ls hl
  have hC := (⟨hx, hb, hml, hown, hts⟩ : CallFix p m c cX0_squares 2 s _ wsX0_squares RX0)
  have hl : lv_has ls 2 [(0, .ref (q 0)), (1, .int (k))] := hl
  refine lv_aload_n hx hb dX0_squares_0 rfl (lv_at hl 0 rfl) ?_
  refine lv_iload_n hx hb dX0_squares_1 rfl (lv_at hl 1 rfl) ?_
  refine cV (As := [.int (k)]) hC hK hP rfl rfl (kX0_isColouring hP k (by omega)) [] (cwV 1 hts gX0_squares_X0_isColouring rfl rfl rfl hdX0_isColouring ⟨Nat.le_of_ble_eq_true rfl, Nat.le_of_ble_eq_true rfl⟩) rfl hl.1 rfl (Nat.le_of_ble_eq_true rfl) dX0_squares_2 ⟨Nat.zero_le _, Nat.zero_le _⟩ ?_
  refine lv_if_eq (tgt := 16) hx hb dX0_squares_5 (by decide) (fun cz1 => ?_) (fun cz1 => ?_)
  · have cz1 := b2_0 cz1
    refine lv_iconst (v := (-1)) hx hb dX0_squares_16 (by decide) ?_
    exact rI hx hb hr hlk hH dX0_squares_17 (by rw [if_neg (by assumption)])
  · have cz1 := b2_1 cz1
    refine lv_aload_n hx hb dX0_squares_8 rfl (lv_at hl 0 rfl) ?_
    refine lv_iload_n hx hb dX0_squares_9 rfl (lv_at hl 1 rfl) ?_
    refine cV (As := [.int (k)]) hC hK hP rfl rfl (kX0_squaresOf hP k (by omega)) [] (cwV 1 hts gX0_squares_X0_squaresOf rfl rfl rfl hdX0_squaresOf ⟨Nat.le_of_ble_eq_true rfl, Nat.le_of_ble_eq_true rfl⟩) rfl hl.1 rfl (Nat.le_of_ble_eq_true rfl) dX0_squares_10 ⟨Nat.zero_le _, Nat.zero_le _⟩ ?_
    refine lv_goto (tgt := 17) hx hb dX0_squares_13 (by decide) ?_
    exact rI hx hb hr hlk hH dX0_squares_17 (by rw [if_pos (by assumption)])

theorem hdX0_times : yX0_times.cls = RX0 ∧ yX0_times.cls ≠ "java/lang/invoke/MethodHandle" ∧ yX0_times.cls ≠ "java/lang/invoke/VarHandle" ∧ (parseMethodDescriptor yX0_times.desc).map (fun d => d.parameters.length) = some 0 := by decide +kernel
set_option maxHeartbeats 4000000 in
set_option maxRecDepth 100000 in
theorem kX0_times {l : Launch} {D : va_G} {cy : ClassId} {H : Heap} {q : Nat → Nat} {gT gC : Int32} {ak : Int64} {ta pl cp kd fa fb bm sx sy : Nat → Int32} {N K S : Nat}  (hP : va_P D vwCl (wX cy q (nI N) gT gC (nI K) (nI S) ak ta pl cp kd fa fb bm sx sy) H)  (hN : N ≤ 12) (hKn : K ≤ 10) : Met l yX0_times wsX0_times { frames := 1, cells := 0, slots := 0, locals := 21 } (pcK D cy H [.ref (q 0)]) (QcRead (tiF bm K N)) 0 0 (fun _ => False) := by
  refine mV 5 (by decide) rfl (Nat.le_of_ble_eq_true rfl) ?_
  intro p e s m below meth c hx hb hml hr hlk hts hown hnm hK hH ls hl
  have hC := (⟨hx, hb, hml, hown, hts⟩ : CallFix p m c cX0_times 5 s _ wsX0_times RX0)
  have hin : ∀ w ∈ wsX00, w ∈ wsX0_times := by decide +kernel
  have L7 : Cond.fieldLink RX0 7 "TwoColours" "thingCount" "I" ∈ wsX0_times := by decide +kernel
  have L29 : Cond.fieldLink RX0 29 "TwoColours" "heapCount" "I" ∈ wsX0_times := by decide +kernel
  have L41 : Cond.fieldLink RX0 41 "TwoColours" "heapBits" "[I" ∈ wsX0_times := by decide +kernel
  have hl : lv_has ls 5 [(0, .ref (q 0))] := hl
  refine lv_iconst (v := 0) hx hb dX0_times_0 (by decide) ?_
  refine lv_istore_n (lv' := [(1, .int (0)), (0, .ref (q 0))]) hx hb dX0_times_1 rfl hl (by decide) rfl (fun ls hl => ?_)
  refine lv_iconst (v := 0) hx hb dX0_times_2 (by decide) ?_
  refine lv_istore_n (lv' := [(2, .int (0)), (1, .int (0)), (0, .ref (q 0))]) hx hb dX0_times_3 rfl hl (by decide) rfl (fun ls hl => ?_)
  refine lpP 4 (fun i ls => lv_has ls 5 [(0, .ref (q 0)), (1, .int (tiF bm K i)), (2, .int (nI i))]) (N) ?_ (0) ls (by omega) (lv_sub hl [2, 1, 0] rfl)
  intro i ls hi hl ih_4
  refine lv_iload_n hx hb dX0_times_4 rfl (lv_at hl 2 rfl) ?_
  refine lv_aload_n hx hb dX0_times_5 rfl (lv_at hl 0 rfl) ?_
  refine gX_thingCount hx hb hts hin hown hK hP L7 dX0_times_6 ?_
  refine lv_icmp_ge (tgt := 58) hx hb dX0_times_9 (by decide) (fun cz1 => ?_) (fun cz1 => ?_)
  · have cz1 : N ≤ i := (nI_leI (a := N) (b := i) (by omega) (by omega)).mp cz1
    refine lv_iload_n hx hb dX0_times_58 rfl (lv_at hl 1 rfl) ?_
    exact rI hx hb hr hlk hH dX0_times_59 (by rw [show i = N by omega])
  · have cz1 : ¬ N ≤ i := fun h => cz1 ((nI_leI (a := N) (b := i) (by omega) (by omega)).mpr h)
    refine lv_iconst (v := 0) hx hb dX0_times_12 (by decide) ?_
    refine lv_istore_n (lv' := [(3, .int (0)), (0, .ref (q 0)), (1, .int (tiF bm K i)), (2, .int (nI i))]) hx hb dX0_times_13 rfl hl (by decide) rfl (fun ls hl => ?_)
    refine lv_iconst (v := 0) hx hb dX0_times_14 (by decide) ?_
    refine lv_istore (lv' := [(4, .int (0)), (3, .int (0)), (0, .ref (q 0)), (1, .int (tiF bm K i)), (2, .int (nI i))]) hx hb dX0_times_15 hl (by decide) rfl (fun ls hl => ?_)
    refine lpP 17 (fun j ls => lv_has ls 5 [(0, .ref (q 0)), (1, .int (tiF bm K i)), (2, .int (nI i)), (3, .int (tmF bm (nI i) j)), (4, .int (nI j))]) (K) ?_ (0) ls (by omega) (lv_sub hl [2, 3, 4, 1, 0] rfl)
    intro j ls hj hl ih_17
    refine lv_iload hx hb dX0_times_17 (lv_at hl 4 rfl) ?_
    refine lv_aload_n hx hb dX0_times_19 rfl (lv_at hl 0 rfl) ?_
    refine gX_heapCount hx hb hts hin hown hK hP L29 dX0_times_20 ?_
    refine lv_icmp_ge (tgt := 46) hx hb dX0_times_23 (by decide) (fun cz2 => ?_) (fun cz2 => ?_)
    · have cz2 : K ≤ j := (nI_leI (a := K) (b := j) (by omega) (by omega)).mp cz2
      have ej : K = j := by omega
      subst ej
      refine lv_iload_n hx hb dX0_times_46 rfl (lv_at hl 1 rfl) ?_
      refine lv_iload_n hx hb dX0_times_47 rfl (lv_at hl 3 rfl) ?_
      refine va_mmax hx hb (hml.trans hl.1.symm) hown (hts (.methodLink RX0 109 Lib.Math.max.name) (by decide +kernel)) (hts (.static Lib.Math.max.name) (by decide +kernel)) (hts (.initialized "java/lang/Math") (by decide +kernel)) (hts (.code Lib.Math.max.name Lib.Math.max.code 2 (some .int)) (by decide +kernel)) (Nat.le_of_ble_eq_true rfl) (Nat.le_of_ble_eq_true rfl) (Nat.zero_le _) (Nat.zero_le _) dX0_times_48 ?_
      refine lv_istore_n (lv' := [(1, .int (maxI (tiF bm K i) (tmF bm (nI i) K))), (0, .ref (q 0)), (2, .int (nI i)), (3, .int (tmF bm (nI i) K)), (4, .int (nI K))]) hx hb dX0_times_51 rfl hl (by decide) rfl (fun ls hl => ?_)
      refine lv_iinc (v := nI (i + 1)) (lv' := [(2, .int (nI (i + 1))), (1, .int (maxI (tiF bm K i) (tmF bm (nI i) K))), (0, .ref (q 0)), (3, .int (tmF bm (nI i) K)), (4, .int (nI K))]) hx hb dX0_times_52 hl (k := 2) rfl (nI_1 _) (by decide) rfl (fun ls hl => ?_)
      refine lv_goto (tgt := 4) hx hb dX0_times_55 (by decide) ?_
      exact ih_4 _ (by omega) (lv_sub hl [2, 1, 0] rfl)
    · have cz2 : ¬ K ≤ j := fun h => cz2 ((nI_leI (a := K) (b := j) (by omega) (by omega)).mpr h)
      refine lv_iload_n hx hb dX0_times_26 rfl (lv_at hl 3 rfl) ?_
      refine lv_aload_n hx hb dX0_times_27 rfl (lv_at hl 0 rfl) ?_
      refine gX_heapBits hx hb hts hin hown hK hP L41 dX0_times_28 ?_
      refine lv_iload hx hb dX0_times_31 (lv_at hl 4 rfl) ?_
      refine ldX_heapBits (j := j) hx hb hK hP rfl (by omega) dX0_times_33 ?_
      refine lv_iload_n hx hb dX0_times_34 rfl (lv_at hl 2 rfl) ?_
      refine cS (As := [.int (bm j), .int (nI i)]) hC (kX0_bitOf (bm j) (nI i) ) [.int (tmF bm (nI i) j)] (va_cwS 2 hts gX0_times_X0_bitOf rfl rfl rfl (by decide +kernel) ⟨Nat.le_of_ble_eq_true rfl, Nat.le_of_ble_eq_true rfl⟩) rfl hl.1 rfl (Nat.le_of_ble_eq_true rfl) dX0_times_35 ⟨Nat.zero_le _, Nat.zero_le _⟩ ?_
      refine lv_iadd hx hb dX0_times_38 ?_
      refine lv_istore_n (lv' := [(3, .int ((tmF bm (nI i) j) + (bitI (bm j) (nI i)))), (0, .ref (q 0)), (1, .int (tiF bm K i)), (2, .int (nI i)), (4, .int (nI j))]) hx hb dX0_times_39 rfl hl (by decide) rfl (fun ls hl => ?_)
      refine lv_iinc (v := nI (j + 1)) (lv' := [(4, .int (nI (j + 1))), (3, .int ((tmF bm (nI i) j) + (bitI (bm j) (nI i)))), (0, .ref (q 0)), (1, .int (tiF bm K i)), (2, .int (nI i))]) hx hb dX0_times_40 hl (k := 4) rfl (nI_1 _) (by decide) rfl (fun ls hl => ?_)
      refine lv_goto (tgt := 17) hx hb dX0_times_43 (by decide) ?_
      exact ih_17 _ (by omega) (lv_sub hl [2, 3, 4, 1, 0] rfl)

theorem hdX0_firstLeast : yX0_firstLeast.cls = RX0 ∧ yX0_firstLeast.cls ≠ "java/lang/invoke/MethodHandle" ∧ yX0_firstLeast.cls ≠ "java/lang/invoke/VarHandle" ∧ (parseMethodDescriptor yX0_firstLeast.desc).map (fun d => d.parameters.length) = some 0 := by decide +kernel
set_option maxHeartbeats 4000000 in
set_option maxRecDepth 100000 in
theorem kX0_firstLeast {l : Launch} {D : va_G} {cy : ClassId} {H : Heap} {q : Nat → Nat} {gT : Int32} {ak : Int64} {ta pl cp kd fa fb bm sx sy : Nat → Int32} {N K S : Nat} {C : Nat} (hP : va_P D vwCl (wX cy q (nI N) gT (nI C) (nI K) (nI S) ak ta pl cp kd fa fb bm sx sy) H)  (hN : N ≤ 12) (hKn : K ≤ 10) (hCn : C < 2 ^ N) : Met l yX0_firstLeast wsX0_firstLeast { frames := 4, cells := 0, slots := 0, locals := 86 } (pcK D cy H [.ref (q 0)]) (QcRead (nI (flX bm K gT C N))) 0 0 (fun _ => False) := by
  refine mV 5 (by decide) rfl (Nat.le_of_ble_eq_true rfl) ?_
  intro p e s m below meth c hx hb hml hr hlk hts hown hnm hK hH ls hl
  have hC := (⟨hx, hb, hml, hown, hts⟩ : CallFix p m c cX0_firstLeast 5 s _ wsX0_firstLeast RX0)
  have hin : ∀ w ∈ wsX00, w ∈ wsX0_firstLeast := by decide +kernel
  have L23 : Cond.fieldLink RX0 23 "TwoColours" "heldColours" "I" ∈ wsX0_firstLeast := by decide +kernel
  have hl : lv_has ls 5 [(0, .ref (q 0))] := hl
  have h2N := p2_le hN
  have h2P := p2_pos N
  refine lv_aload_n hx hb dX0_firstLeast_0 rfl (lv_at hl 0 rfl) ?_
  refine gX_heldColours hx hb hts hin hown hK hP L23 dX0_firstLeast_1 ?_
  refine lv_istore_n (lv' := [(1, .int (nI C)), (0, .ref (q 0))]) hx hb dX0_firstLeast_4 rfl hl (by decide) rfl (fun ls hl => ?_)
  refine lv_aload_n hx hb dX0_firstLeast_5 rfl (lv_at hl 1 rfl) ?_
  refine lv_iload_n hx hb dX0_firstLeast_6 rfl (lv_at hl 0 rfl) ?_
  refine cV (As := [.int (nI C)]) hC hK hP rfl rfl (kX0_worstOf hP (nI C) (by omega)) [] (cwV 1 hts gX0_firstLeast_X0_worstOf rfl rfl rfl hdX0_worstOf ⟨Nat.le_of_ble_eq_true rfl, Nat.le_of_ble_eq_true rfl⟩) rfl hl.1 rfl (Nat.le_of_ble_eq_true rfl) dX0_firstLeast_7 ⟨Nat.zero_le _, Nat.zero_le _⟩ ?_
  refine lv_istore_n (lv' := [(2, .int (woF bm (nI C) K)), (1, .int (nI C)), (0, .ref (q 0))]) hx hb dX0_firstLeast_10 rfl hl (by decide) rfl (fun ls hl => ?_)
  refine lv_iload_n hx hb dX0_firstLeast_11 rfl (lv_at hl 1 rfl) ?_
  refine lv_iconst (v := 1) hx hb dX0_firstLeast_12 (by decide) ?_
  refine lv_iadd hx hb dX0_firstLeast_13 ?_
  refine tpI (y := nI (C + 1)) (nI_1 C) ?_
  refine lv_istore_n (lv' := [(3, .int (nI (C + 1))), (2, .int (woF bm (nI C) K)), (1, .int (nI C)), (0, .ref (q 0))]) hx hb dX0_firstLeast_14 rfl hl (by decide) rfl (fun ls hl => ?_)
  refine lpP 15 (fun i ls => lv_has ls 5 [(0, .ref (q 0)), (1, .int (nI (amF (fun n => woF bm (nI n) K) (okX gT (nI C)) C i))), (2, .int (woF bm (nI (amF (fun n => woF bm (nI n) K) (okX gT (nI C)) C i)) K)), (3, .int (nI (C + 1 + i)))]) (2 ^ N - (C + 1)) ?_ (0) ls (by omega) (lv_sub hl [3, 2, 1, 0] rfl)
  intro i ls hi hl ih_15
  refine lv_iload_n hx hb dX0_firstLeast_15 rfl (lv_at hl 3 rfl) ?_
  refine lv_aload_n hx hb dX0_firstLeast_16 rfl (lv_at hl 0 rfl) ?_
  refine cV (As := []) hC hK hP rfl rfl (kX0_colouringCount hP  (by omega)) [.int (nI (C + 1 + i))] (cwV 0 hts gX0_firstLeast_X0_colouringCount rfl rfl rfl hdX0_colouringCount ⟨Nat.le_of_ble_eq_true rfl, Nat.le_of_ble_eq_true rfl⟩) rfl hl.1 rfl (Nat.le_of_ble_eq_true rfl) dX0_firstLeast_17 ⟨Nat.zero_le _, Nat.zero_le _⟩ ?_
  refine lv_icmp_ge (tgt := 55) hx hb dX0_firstLeast_20 (by decide) (fun cz1 => ?_) (fun cz1 => ?_)
  · have cz1 : (2 ^ N) ≤ (C + 1 + i) := (nI_leI (a := (2 ^ N)) (b := (C + 1 + i)) (by omega) (by omega)).mp cz1
    refine lv_iload_n hx hb dX0_firstLeast_55 rfl (lv_at hl 1 rfl) ?_
    exact rI hx hb hr hlk hH dX0_firstLeast_56 (by rw [show i = 2 ^ N - (C + 1) by omega]; rfl)
  · have cz1 : ¬ (2 ^ N) ≤ (C + 1 + i) := fun h => cz1 ((nI_leI (a := (2 ^ N)) (b := (C + 1 + i)) (by omega) (by omega)).mpr h)
    refine lv_aload_n hx hb dX0_firstLeast_23 rfl (lv_at hl 0 rfl) ?_
    refine lv_iload_n hx hb dX0_firstLeast_24 rfl (lv_at hl 3 rfl) ?_
    refine cV (As := [.int (nI (C + 1 + i))]) hC hK hP rfl rfl (kX0_keepsToHeld hP (nI (C + 1 + i)) ) [] (cwV 1 hts gX0_firstLeast_X0_keepsToHeld rfl rfl rfl hdX0_keepsToHeld ⟨Nat.le_of_ble_eq_true rfl, Nat.le_of_ble_eq_true rfl⟩) rfl hl.1 rfl (Nat.le_of_ble_eq_true rfl) dX0_firstLeast_25 ⟨Nat.zero_le _, Nat.zero_le _⟩ ?_
    refine lv_if_eq (tgt := 49) hx hb dX0_firstLeast_28 (by decide) (fun cz2 => ?_) (fun cz2 => ?_)
    · have cz2 := b2_0 cz2
      refine lv_iinc (v := nI ((C + 1 + i) + 1)) (lv' := [(3, .int (nI ((C + 1 + i) + 1))), (0, .ref (q 0)), (1, .int (nI (amF (fun n => woF bm (nI n) K) (okX gT (nI C)) C i))), (2, .int (woF bm (nI (amF (fun n => woF bm (nI n) K) (okX gT (nI C)) C i)) K))]) hx hb dX0_firstLeast_49 hl (k := 3) rfl (nI_1 _) (by decide) rfl (fun ls hl => ?_)
      refine lv_goto (tgt := 15) hx hb dX0_firstLeast_52 (by decide) ?_
      exact ih_15 _ (by omega) (by rw [amF_n (w := (fun n => woF bm (nI n) K)) (ok := (okX gT (nI C))) (fun h => cz2 (of_decide_eq_true h))]; exact lv_sub hl [1, 2, 3, 0] rfl)
    · have cz2 := b2_1 cz2
      refine lv_aload_n hx hb dX0_firstLeast_31 rfl (lv_at hl 0 rfl) ?_
      refine lv_iload_n hx hb dX0_firstLeast_32 rfl (lv_at hl 3 rfl) ?_
      refine cV (As := [.int (nI (C + 1 + i))]) hC hK hP rfl rfl (kX0_worstOf hP (nI (C + 1 + i)) (by omega)) [] (cwV 1 hts gX0_firstLeast_X0_worstOf rfl rfl rfl hdX0_worstOf ⟨Nat.le_of_ble_eq_true rfl, Nat.le_of_ble_eq_true rfl⟩) rfl hl.1 rfl (Nat.le_of_ble_eq_true rfl) dX0_firstLeast_33 ⟨Nat.zero_le _, Nat.zero_le _⟩ ?_
      refine lv_istore (lv' := [(4, .int (woF bm (nI (C + 1 + i)) K)), (0, .ref (q 0)), (1, .int (nI (amF (fun n => woF bm (nI n) K) (okX gT (nI C)) C i))), (2, .int (woF bm (nI (amF (fun n => woF bm (nI n) K) (okX gT (nI C)) C i)) K)), (3, .int (nI (C + 1 + i)))]) hx hb dX0_firstLeast_36 hl (by decide) rfl (fun ls hl => ?_)
      refine lv_iload hx hb dX0_firstLeast_38 (lv_at hl 0 rfl) ?_
      refine lv_iload_n hx hb dX0_firstLeast_40 rfl (lv_at hl 3 rfl) ?_
      refine lv_icmp_ge (tgt := 49) hx hb dX0_firstLeast_41 (by decide) (fun cz3 => ?_) (fun cz3 => ?_)
      · refine lv_iinc (v := nI ((C + 1 + i) + 1)) (lv' := [(3, .int (nI ((C + 1 + i) + 1))), (4, .int (woF bm (nI (C + 1 + i)) K)), (0, .ref (q 0)), (1, .int (nI (amF (fun n => woF bm (nI n) K) (okX gT (nI C)) C i))), (2, .int (woF bm (nI (amF (fun n => woF bm (nI n) K) (okX gT (nI C)) C i)) K))]) hx hb dX0_firstLeast_49 hl (k := 4) rfl (nI_1 _) (by decide) rfl (fun ls hl => ?_)
        refine lv_goto (tgt := 15) hx hb dX0_firstLeast_52 (by decide) ?_
        exact ih_15 _ (by omega) (by rw [amF_f (w := (fun n => woF bm (nI n) K)) (ok := (okX gT (nI C))) (Int32.not_lt.mpr cz3)]; exact lv_sub hl [2, 3, 4, 0] rfl)
      · refine lv_iload hx hb dX0_firstLeast_44 (lv_at hl 0 rfl) ?_
        refine lv_istore_n (lv' := [(2, .int (woF bm (nI (C + 1 + i)) K)), (4, .int (woF bm (nI (C + 1 + i)) K)), (0, .ref (q 0)), (1, .int (nI (amF (fun n => woF bm (nI n) K) (okX gT (nI C)) C i))), (3, .int (nI (C + 1 + i)))]) hx hb dX0_firstLeast_46 rfl hl (by decide) rfl (fun ls hl => ?_)
        refine lv_iload_n hx hb dX0_firstLeast_47 rfl (lv_at hl 4 rfl) ?_
        refine lv_istore_n (lv' := [(1, .int (nI (C + 1 + i))), (2, .int (woF bm (nI (C + 1 + i)) K)), (4, .int (woF bm (nI (C + 1 + i)) K)), (0, .ref (q 0)), (3, .int (nI (C + 1 + i)))]) hx hb dX0_firstLeast_48 rfl hl (by decide) rfl (fun ls hl => ?_)
        refine lv_iinc (v := nI ((C + 1 + i) + 1)) (lv' := [(3, .int (nI ((C + 1 + i) + 1))), (1, .int (nI (C + 1 + i))), (2, .int (woF bm (nI (C + 1 + i)) K)), (4, .int (woF bm (nI (C + 1 + i)) K)), (0, .ref (q 0))]) hx hb dX0_firstLeast_49 hl (k := 4) rfl (nI_1 _) (by decide) rfl (fun ls hl => ?_)
        refine lv_goto (tgt := 15) hx hb dX0_firstLeast_52 (by decide) ?_
        exact ih_15 _ (by omega) (by rw [amF_t (w := (fun n => woF bm (nI n) K)) (ok := (okX gT (nI C))) (decide_eq_true cz2) (Int32.not_le.mp cz3)]; exact lv_sub hl [4, 1, 2, 0] rfl)

theorem hdX0_least : yX0_least.cls = RX0 ∧ yX0_least.cls ≠ "java/lang/invoke/MethodHandle" ∧ yX0_least.cls ≠ "java/lang/invoke/VarHandle" ∧ (parseMethodDescriptor yX0_least.desc).map (fun d => d.parameters.length) = some 0 := by decide +kernel
set_option maxHeartbeats 4000000 in
set_option maxRecDepth 100000 in
theorem kX0_least {l : Launch} {D : va_G} {cy : ClassId} {H : Heap} {q : Nat → Nat} {gT : Int32} {ak : Int64} {ta pl cp kd fa fb bm sx sy : Nat → Int32} {N K S : Nat} {C : Nat} (hP : va_P D vwCl (wX cy q (nI N) gT (nI C) (nI K) (nI S) ak ta pl cp kd fa fb bm sx sy) H)  (hN : N ≤ 12) (hKn : K ≤ 10) (hCn : C < 2 ^ N) : Met l yX0_least wsX0_least { frames := 5, cells := 0, slots := 0, locals := 110 } (pcK D cy H [.ref (q 0)]) (QcRead (woF bm (nI (flX bm K gT C N)) K)) 0 0 (fun _ => False) := by
  refine mV 1 (by decide) rfl (Nat.le_of_ble_eq_true rfl) ?_
  intro p e s m below meth c hx hb hml hr hlk hts hown hnm hK hH ls hl
  have hC := (⟨hx, hb, hml, hown, hts⟩ : CallFix p m c cX0_least 1 s _ wsX0_least RX0)
  have hl : lv_has ls 1 [(0, .ref (q 0))] := hl
  have h2N := p2_le hN
  have h2P := p2_pos N
  refine lv_aload_n hx hb dX0_least_0 rfl (lv_at hl 0 rfl) ?_
  refine lv_aload_n hx hb dX0_least_1 rfl (lv_at hl 0 rfl) ?_
  refine cV (As := []) hC hK hP rfl rfl (kX0_firstLeast hP  (by omega) (by omega) (by omega)) [.ref (q 0)] (cwV 0 hts gX0_least_X0_firstLeast rfl rfl rfl hdX0_firstLeast ⟨Nat.le_of_ble_eq_true rfl, Nat.le_of_ble_eq_true rfl⟩) rfl hl.1 rfl (Nat.le_of_ble_eq_true rfl) dX0_least_2 ⟨Nat.zero_le _, Nat.zero_le _⟩ ?_
  refine cV (As := [.int (nI (flX bm K gT C N))]) hC hK hP rfl rfl (kX0_worstOf hP (nI (flX bm K gT C N)) (by omega)) [] (cwV 1 hts gX0_least_X0_worstOf rfl rfl rfl hdX0_worstOf ⟨Nat.le_of_ble_eq_true rfl, Nat.le_of_ble_eq_true rfl⟩) rfl hl.1 rfl (Nat.le_of_ble_eq_true rfl) dX0_least_5 ⟨Nat.zero_le _, Nat.zero_le _⟩ ?_
  exact rI hx hb hr hlk hH dX0_least_8 rfl

theorem hdX0_first : yX0_first.cls = RX0 ∧ yX0_first.cls ≠ "java/lang/invoke/MethodHandle" ∧ yX0_first.cls ≠ "java/lang/invoke/VarHandle" ∧ (parseMethodDescriptor yX0_first.desc).map (fun d => d.parameters.length) = some 0 := by decide +kernel
set_option maxHeartbeats 4000000 in
set_option maxRecDepth 100000 in
theorem kX0_first {l : Launch} {D : va_G} {cy : ClassId} {H : Heap} {q : Nat → Nat} {gT : Int32} {ak : Int64} {ta pl cp kd fa fb bm sx sy : Nat → Int32} {N K S : Nat} {C : Nat} (hP : va_P D vwCl (wX cy q (nI N) gT (nI C) (nI K) (nI S) ak ta pl cp kd fa fb bm sx sy) H)  (hN : N ≤ 12) (hKn : K ≤ 10) (hCn : C < 2 ^ N) : Met l yX0_first wsX0_first { frames := 5, cells := 0, slots := 0, locals := 110 } (pcK D cy H [.ref (q 0)]) (QcRead (nI (flX bm K gT C N))) 0 0 (fun _ => False) := by
  refine mV 1 (by decide) rfl (Nat.le_of_ble_eq_true rfl) ?_
  intro p e s m below meth c hx hb hml hr hlk hts hown hnm hK hH ls hl
  have hC := (⟨hx, hb, hml, hown, hts⟩ : CallFix p m c cX0_first 1 s _ wsX0_first RX0)
  have hl : lv_has ls 1 [(0, .ref (q 0))] := hl
  have h2N := p2_le hN
  have h2P := p2_pos N
  refine lv_aload_n hx hb dX0_first_0 rfl (lv_at hl 0 rfl) ?_
  refine cV (As := []) hC hK hP rfl rfl (kX0_firstLeast hP  (by omega) (by omega) (by omega)) [] (cwV 0 hts gX0_first_X0_firstLeast rfl rfl rfl hdX0_firstLeast ⟨Nat.le_of_ble_eq_true rfl, Nat.le_of_ble_eq_true rfl⟩) rfl hl.1 rfl (Nat.le_of_ble_eq_true rfl) dX0_first_1 ⟨Nat.zero_le _, Nat.zero_le _⟩ ?_
  exact rI hx hb hr hlk hH dX0_first_4 rfl

theorem hdX0_many : yX0_many.cls = RX0 ∧ yX0_many.cls ≠ "java/lang/invoke/MethodHandle" ∧ yX0_many.cls ≠ "java/lang/invoke/VarHandle" ∧ (parseMethodDescriptor yX0_many.desc).map (fun d => d.parameters.length) = some 0 := by decide +kernel
set_option maxHeartbeats 4000000 in
set_option maxRecDepth 100000 in
theorem kX0_many {l : Launch} {D : va_G} {cy : ClassId} {H : Heap} {q : Nat → Nat} {gT : Int32} {ak : Int64} {ta pl cp kd fa fb bm sx sy : Nat → Int32} {N K S : Nat} {C : Nat} (hP : va_P D vwCl (wX cy q (nI N) gT (nI C) (nI K) (nI S) ak ta pl cp kd fa fb bm sx sy) H)  (hN : N ≤ 12) (hKn : K ≤ 10) (hCn : C < 2 ^ N) : Met l yX0_many wsX0_many { frames := 5, cells := 0, slots := 0, locals := 110 } (pcK D cy H [.ref (q 0)]) (QcRead (nI (cnF (maX bm K gT (nI C) (woF bm (nI (flX bm K gT C N)) K)) (flX bm K gT C N) (2 ^ N - flX bm K gT C N)))) 0 0 (fun _ => False) := by
  refine mV 5 (by decide) rfl (Nat.le_of_ble_eq_true rfl) ?_
  intro p e s m below meth c hx hb hml hr hlk hts hown hnm hK hH ls hl
  have hC := (⟨hx, hb, hml, hown, hts⟩ : CallFix p m c cX0_many 5 s _ wsX0_many RX0)
  have hl : lv_has ls 5 [(0, .ref (q 0))] := hl
  have h2N := p2_le hN
  have h2P := p2_pos N
  have hfl := flX_lt (bm := bm) (K := K) (gT := gT) hCn
  refine lv_aload_n hx hb dX0_many_0 rfl (lv_at hl 0 rfl) ?_
  refine cV (As := []) hC hK hP rfl rfl (kX0_firstLeast hP  (by omega) (by omega) (by omega)) [] (cwV 0 hts gX0_many_X0_firstLeast rfl rfl rfl hdX0_firstLeast ⟨Nat.le_of_ble_eq_true rfl, Nat.le_of_ble_eq_true rfl⟩) rfl hl.1 rfl (Nat.le_of_ble_eq_true rfl) dX0_many_1 ⟨Nat.zero_le _, Nat.zero_le _⟩ ?_
  refine lv_istore_n (lv' := [(1, .int (nI (flX bm K gT C N))), (0, .ref (q 0))]) hx hb dX0_many_4 rfl hl (by decide) rfl (fun ls hl => ?_)
  refine lv_aload_n hx hb dX0_many_5 rfl (lv_at hl 1 rfl) ?_
  refine lv_iload_n hx hb dX0_many_6 rfl (lv_at hl 0 rfl) ?_
  refine cV (As := [.int (nI (flX bm K gT C N))]) hC hK hP rfl rfl (kX0_worstOf hP (nI (flX bm K gT C N)) (by omega)) [] (cwV 1 hts gX0_many_X0_worstOf rfl rfl rfl hdX0_worstOf ⟨Nat.le_of_ble_eq_true rfl, Nat.le_of_ble_eq_true rfl⟩) rfl hl.1 rfl (Nat.le_of_ble_eq_true rfl) dX0_many_7 ⟨Nat.zero_le _, Nat.zero_le _⟩ ?_
  refine lv_istore_n (lv' := [(2, .int (woF bm (nI (flX bm K gT C N)) K)), (1, .int (nI (flX bm K gT C N))), (0, .ref (q 0))]) hx hb dX0_many_10 rfl hl (by decide) rfl (fun ls hl => ?_)
  refine lv_iconst (v := 0) hx hb dX0_many_11 (by decide) ?_
  refine lv_istore_n (lv' := [(3, .int (0)), (2, .int (woF bm (nI (flX bm K gT C N)) K)), (1, .int (nI (flX bm K gT C N))), (0, .ref (q 0))]) hx hb dX0_many_12 rfl hl (by decide) rfl (fun ls hl => ?_)
  refine lv_iload_n hx hb dX0_many_13 rfl (lv_at hl 2 rfl) ?_
  refine lv_istore (lv' := [(4, .int (nI (flX bm K gT C N))), (3, .int (0)), (2, .int (woF bm (nI (flX bm K gT C N)) K)), (1, .int (nI (flX bm K gT C N))), (0, .ref (q 0))]) hx hb dX0_many_14 hl (by decide) rfl (fun ls hl => ?_)
  refine lpP 16 (fun i ls => lv_has ls 5 [(0, .ref (q 0)), (1, .int (nI (flX bm K gT C N))), (2, .int (woF bm (nI (flX bm K gT C N)) K)), (3, .int (nI (cnF (maX bm K gT (nI C) (woF bm (nI (flX bm K gT C N)) K)) (flX bm K gT C N) i))), (4, .int (nI (flX bm K gT C N + i)))]) (2 ^ N - flX bm K gT C N) ?_ (0) ls (by omega) (lv_sub hl [4, 3, 2, 1, 0] rfl)
  intro i ls hi hl ih_16
  refine lv_iload hx hb dX0_many_16 (lv_at hl 4 rfl) ?_
  refine lv_aload_n hx hb dX0_many_18 rfl (lv_at hl 0 rfl) ?_
  refine cV (As := []) hC hK hP rfl rfl (kX0_colouringCount hP  (by omega)) [.int (nI (flX bm K gT C N + i))] (cwV 0 hts gX0_many_X0_colouringCount rfl rfl rfl hdX0_colouringCount ⟨Nat.le_of_ble_eq_true rfl, Nat.le_of_ble_eq_true rfl⟩) rfl hl.1 rfl (Nat.le_of_ble_eq_true rfl) dX0_many_19 ⟨Nat.zero_le _, Nat.zero_le _⟩ ?_
  refine lv_icmp_ge (tgt := 53) hx hb dX0_many_22 (by decide) (fun cz1 => ?_) (fun cz1 => ?_)
  · have cz1 : (2 ^ N) ≤ (flX bm K gT C N + i) := (nI_leI (a := (2 ^ N)) (b := (flX bm K gT C N + i)) (by omega) (by omega)).mp cz1
    refine lv_iload_n hx hb dX0_many_53 rfl (lv_at hl 3 rfl) ?_
    exact rI hx hb hr hlk hH dX0_many_54 (by rw [show i = 2 ^ N - flX bm K gT C N by omega])
  · have cz1 : ¬ (2 ^ N) ≤ (flX bm K gT C N + i) := fun h => cz1 ((nI_leI (a := (2 ^ N)) (b := (flX bm K gT C N + i)) (by omega) (by omega)).mpr h)
    refine lv_aload_n hx hb dX0_many_25 rfl (lv_at hl 0 rfl) ?_
    refine lv_iload hx hb dX0_many_26 (lv_at hl 4 rfl) ?_
    refine cV (As := [.int (nI (flX bm K gT C N + i))]) hC hK hP rfl rfl (kX0_keepsToHeld hP (nI (flX bm K gT C N + i)) ) [] (cwV 1 hts gX0_many_X0_keepsToHeld rfl rfl rfl hdX0_keepsToHeld ⟨Nat.le_of_ble_eq_true rfl, Nat.le_of_ble_eq_true rfl⟩) rfl hl.1 rfl (Nat.le_of_ble_eq_true rfl) dX0_many_28 ⟨Nat.zero_le _, Nat.zero_le _⟩ ?_
    refine lv_if_eq (tgt := 47) hx hb dX0_many_31 (by decide) (fun cz2 => ?_) (fun cz2 => ?_)
    · have cz2 := b2_0 cz2
      refine lv_iinc (v := nI ((flX bm K gT C N + i) + 1)) (lv' := [(4, .int (nI ((flX bm K gT C N + i) + 1))), (0, .ref (q 0)), (1, .int (nI (flX bm K gT C N))), (2, .int (woF bm (nI (flX bm K gT C N)) K)), (3, .int (nI (cnF (maX bm K gT (nI C) (woF bm (nI (flX bm K gT C N)) K)) (flX bm K gT C N) i)))]) hx hb dX0_many_47 hl (k := 4) rfl (nI_1 _) (by decide) rfl (fun ls hl => ?_)
      refine lv_goto (tgt := 16) hx hb dX0_many_50 (by decide) ?_
      exact ih_16 _ (by omega) (by rw [cnF_f (P := maX bm K gT (nI C) (woF bm (nI (flX bm K gT C N)) K)) (fun h => cz2 (of_decide_eq_true (Bool.and_eq_true _ _ ▸ h).1))]; exact lv_sub hl [1, 2, 3, 4, 0] rfl)
    · have cz2 := b2_1 cz2
      refine lv_aload_n hx hb dX0_many_34 rfl (lv_at hl 0 rfl) ?_
      refine lv_iload hx hb dX0_many_35 (lv_at hl 4 rfl) ?_
      refine cV (As := [.int (nI (flX bm K gT C N + i))]) hC hK hP rfl rfl (kX0_worstOf hP (nI (flX bm K gT C N + i)) (by omega)) [] (cwV 1 hts gX0_many_X0_worstOf rfl rfl rfl hdX0_worstOf ⟨Nat.le_of_ble_eq_true rfl, Nat.le_of_ble_eq_true rfl⟩) rfl hl.1 rfl (Nat.le_of_ble_eq_true rfl) dX0_many_37 ⟨Nat.zero_le _, Nat.zero_le _⟩ ?_
      refine lv_iload_n hx hb dX0_many_40 rfl (lv_at hl 2 rfl) ?_
      refine lv_icmp_ne (tgt := 47) hx hb dX0_many_41 (by decide) (fun cz3 => ?_) (fun cz3 => ?_)
      · refine lv_iinc (v := nI ((flX bm K gT C N + i) + 1)) (lv' := [(4, .int (nI ((flX bm K gT C N + i) + 1))), (0, .ref (q 0)), (1, .int (nI (flX bm K gT C N))), (2, .int (woF bm (nI (flX bm K gT C N)) K)), (3, .int (nI (cnF (maX bm K gT (nI C) (woF bm (nI (flX bm K gT C N)) K)) (flX bm K gT C N) i)))]) hx hb dX0_many_47 hl (k := 4) rfl (nI_1 _) (by decide) rfl (fun ls hl => ?_)
        refine lv_goto (tgt := 16) hx hb dX0_many_50 (by decide) ?_
        exact ih_16 _ (by omega) (by rw [cnF_f (P := maX bm K gT (nI C) (woF bm (nI (flX bm K gT C N)) K)) (fun h => cz3 (of_decide_eq_true (Bool.and_eq_true _ _ ▸ h).2))]; exact lv_sub hl [1, 2, 3, 4, 0] rfl)
      · refine lv_iinc (v := nI ((cnF (maX bm K gT (nI C) (woF bm (nI (flX bm K gT C N)) K)) (flX bm K gT C N) i) + 1)) (lv' := [(3, .int (nI ((cnF (maX bm K gT (nI C) (woF bm (nI (flX bm K gT C N)) K)) (flX bm K gT C N) i) + 1))), (0, .ref (q 0)), (1, .int (nI (flX bm K gT C N))), (2, .int (woF bm (nI (flX bm K gT C N)) K)), (4, .int (nI (flX bm K gT C N + i)))]) hx hb dX0_many_44 hl (k := 3) rfl (nI_1 _) (by decide) rfl (fun ls hl => ?_)
        refine lv_iinc (v := nI ((flX bm K gT C N + i) + 1)) (lv' := [(4, .int (nI ((flX bm K gT C N + i) + 1))), (3, .int (nI ((cnF (maX bm K gT (nI C) (woF bm (nI (flX bm K gT C N)) K)) (flX bm K gT C N) i) + 1))), (0, .ref (q 0)), (1, .int (nI (flX bm K gT C N))), (2, .int (woF bm (nI (flX bm K gT C N)) K))]) hx hb dX0_many_47 hl (k := 4) rfl (nI_1 _) (by decide) rfl (fun ls hl => ?_)
        refine lv_goto (tgt := 16) hx hb dX0_many_50 (by decide) ?_
        exact ih_16 _ (by omega) (by rw [cnF_t (P := maX bm K gT (nI C) (woF bm (nI (flX bm K gT C N)) K)) (Bool.and_eq_true _ _ ▸ ⟨decide_eq_true cz2, decide_eq_true cz3⟩)]; exact lv_sub hl [2, 3, 4, 1, 0] rfl)

theorem hdX0_fewest : yX0_fewest.cls = RX0 ∧ yX0_fewest.cls ≠ "java/lang/invoke/MethodHandle" ∧ yX0_fewest.cls ≠ "java/lang/invoke/VarHandle" ∧ (parseMethodDescriptor yX0_fewest.desc).map (fun d => d.parameters.length) = some 0 := by decide +kernel
set_option maxHeartbeats 4000000 in
set_option maxRecDepth 100000 in
theorem kX0_fewest {l : Launch} {D : va_G} {cy : ClassId} {H : Heap} {q : Nat → Nat} {gT : Int32} {ak : Int64} {ta pl cp kd fa fb bm sx sy : Nat → Int32} {N K S : Nat} {C : Nat} (hP : va_P D vwCl (wX cy q (nI N) gT (nI C) (nI K) (nI S) ak ta pl cp kd fa fb bm sx sy) H)  (hN : N ≤ 12) (hKn : K ≤ 10) (hCn : C < 2 ^ N) : Met l yX0_fewest wsX0_fewest { frames := 4, cells := 0, slots := 0, locals := 87 } (pcK D cy H [.ref (q 0)]) (QcRead (mnF (fun n => sqF bm (nI n) K) (okX gT (nI C)) C (2 ^ N - (C + 1)))) 0 0 (fun _ => False) := by
  refine mV 3 (by decide) rfl (Nat.le_of_ble_eq_true rfl) ?_
  intro p e s m below meth c hx hb hml hr hlk hts hown hnm hK hH ls hl
  have hC := (⟨hx, hb, hml, hown, hts⟩ : CallFix p m c cX0_fewest 3 s _ wsX0_fewest RX0)
  have hin : ∀ w ∈ wsX00, w ∈ wsX0_fewest := by decide +kernel
  have L23 : Cond.fieldLink RX0 23 "TwoColours" "heldColours" "I" ∈ wsX0_fewest := by decide +kernel
  have hl : lv_has ls 3 [(0, .ref (q 0))] := hl
  have h2N := p2_le hN
  have h2P := p2_pos N
  refine lv_aload_n hx hb dX0_fewest_0 rfl (lv_at hl 0 rfl) ?_
  refine lv_aload_n hx hb dX0_fewest_1 rfl (lv_at hl 0 rfl) ?_
  refine gX_heldColours hx hb hts hin hown hK hP L23 dX0_fewest_2 ?_
  refine cV (As := [.int (nI C)]) hC hK hP rfl rfl (kX0_squaresOf hP (nI C) (by omega)) [] (cwV 1 hts gX0_fewest_X0_squaresOf rfl rfl rfl hdX0_squaresOf ⟨Nat.le_of_ble_eq_true rfl, Nat.le_of_ble_eq_true rfl⟩) rfl hl.1 rfl (Nat.le_of_ble_eq_true rfl) dX0_fewest_5 ⟨Nat.zero_le _, Nat.zero_le _⟩ ?_
  refine lv_istore_n (lv' := [(1, .int (sqF bm (nI C) K)), (0, .ref (q 0))]) hx hb dX0_fewest_8 rfl hl (by decide) rfl (fun ls hl => ?_)
  refine lv_aload_n hx hb dX0_fewest_9 rfl (lv_at hl 1 rfl) ?_
  refine gX_heldColours hx hb hts hin hown hK hP L23 dX0_fewest_10 ?_
  refine lv_iconst (v := 1) hx hb dX0_fewest_13 (by decide) ?_
  refine lv_iadd hx hb dX0_fewest_14 ?_
  refine tpI (y := nI (C + 1)) (nI_1 C) ?_
  refine lv_istore_n (lv' := [(2, .int (nI (C + 1))), (1, .int (sqF bm (nI C) K)), (0, .ref (q 0))]) hx hb dX0_fewest_15 rfl hl (by decide) rfl (fun ls hl => ?_)
  refine lpP 16 (fun i ls => lv_has ls 3 [(0, .ref (q 0)), (1, .int (mnF (fun n => sqF bm (nI n) K) (okX gT (nI C)) C i)), (2, .int (nI (C + 1 + i)))]) (2 ^ N - (C + 1)) ?_ (0) ls (by omega) (lv_sub hl [2, 1, 0] rfl)
  intro i ls hi hl ih_16
  refine lv_iload_n hx hb dX0_fewest_16 rfl (lv_at hl 2 rfl) ?_
  refine lv_aload_n hx hb dX0_fewest_17 rfl (lv_at hl 0 rfl) ?_
  refine cV (As := []) hC hK hP rfl rfl (kX0_colouringCount hP  (by omega)) [.int (nI (C + 1 + i))] (cwV 0 hts gX0_fewest_X0_colouringCount rfl rfl rfl hdX0_colouringCount ⟨Nat.le_of_ble_eq_true rfl, Nat.le_of_ble_eq_true rfl⟩) rfl hl.1 rfl (Nat.le_of_ble_eq_true rfl) dX0_fewest_18 ⟨Nat.zero_le _, Nat.zero_le _⟩ ?_
  refine lv_icmp_ge (tgt := 48) hx hb dX0_fewest_21 (by decide) (fun cz1 => ?_) (fun cz1 => ?_)
  · have cz1 : (2 ^ N) ≤ (C + 1 + i) := (nI_leI (a := (2 ^ N)) (b := (C + 1 + i)) (by omega) (by omega)).mp cz1
    refine lv_iload_n hx hb dX0_fewest_48 rfl (lv_at hl 1 rfl) ?_
    exact rI hx hb hr hlk hH dX0_fewest_49 (by rw [show i = 2 ^ N - (C + 1) by omega])
  · have cz1 : ¬ (2 ^ N) ≤ (C + 1 + i) := fun h => cz1 ((nI_leI (a := (2 ^ N)) (b := (C + 1 + i)) (by omega) (by omega)).mpr h)
    refine lv_aload_n hx hb dX0_fewest_24 rfl (lv_at hl 0 rfl) ?_
    refine lv_iload_n hx hb dX0_fewest_25 rfl (lv_at hl 2 rfl) ?_
    refine cV (As := [.int (nI (C + 1 + i))]) hC hK hP rfl rfl (kX0_keepsToHeld hP (nI (C + 1 + i)) ) [] (cwV 1 hts gX0_fewest_X0_keepsToHeld rfl rfl rfl hdX0_keepsToHeld ⟨Nat.le_of_ble_eq_true rfl, Nat.le_of_ble_eq_true rfl⟩) rfl hl.1 rfl (Nat.le_of_ble_eq_true rfl) dX0_fewest_26 ⟨Nat.zero_le _, Nat.zero_le _⟩ ?_
    refine lv_if_eq (tgt := 42) hx hb dX0_fewest_29 (by decide) (fun cz2 => ?_) (fun cz2 => ?_)
    · have cz2 := b2_0 cz2
      refine lv_iinc (v := nI ((C + 1 + i) + 1)) (lv' := [(2, .int (nI ((C + 1 + i) + 1))), (0, .ref (q 0)), (1, .int (mnF (fun n => sqF bm (nI n) K) (okX gT (nI C)) C i))]) hx hb dX0_fewest_42 hl (k := 2) rfl (nI_1 _) (by decide) rfl (fun ls hl => ?_)
      refine lv_goto (tgt := 16) hx hb dX0_fewest_45 (by decide) ?_
      exact ih_16 _ (by omega) (by rw [mnF_f (w := (fun n => sqF bm (nI n) K)) (ok := (okX gT (nI C))) (fun h => cz2 (of_decide_eq_true h))]; exact lv_sub hl [1, 2, 0] rfl)
    · have cz2 := b2_1 cz2
      refine lv_iload_n hx hb dX0_fewest_32 rfl (lv_at hl 1 rfl) ?_
      refine lv_aload_n hx hb dX0_fewest_33 rfl (lv_at hl 0 rfl) ?_
      refine lv_iload_n hx hb dX0_fewest_34 rfl (lv_at hl 2 rfl) ?_
      refine cV (As := [.int (nI (C + 1 + i))]) hC hK hP rfl rfl (kX0_squaresOf hP (nI (C + 1 + i)) (by omega)) [.int (mnF (fun n => sqF bm (nI n) K) (okX gT (nI C)) C i)] (cwV 1 hts gX0_fewest_X0_squaresOf rfl rfl rfl hdX0_squaresOf ⟨Nat.le_of_ble_eq_true rfl, Nat.le_of_ble_eq_true rfl⟩) rfl hl.1 rfl (Nat.le_of_ble_eq_true rfl) dX0_fewest_35 ⟨Nat.zero_le _, Nat.zero_le _⟩ ?_
      refine va_mmin hx hb (hml.trans hl.1.symm) hown (hts (.methodLink RX0 124 Lib.Math.min.name) (by decide +kernel)) (hts (.static Lib.Math.min.name) (by decide +kernel)) (hts (.initialized "java/lang/Math") (by decide +kernel)) (hts (.code Lib.Math.min.name Lib.Math.min.code 2 (some .int)) (by decide +kernel)) (Nat.le_of_ble_eq_true rfl) (Nat.le_of_ble_eq_true rfl) (Nat.zero_le _) (Nat.zero_le _) dX0_fewest_38 ?_
      refine lv_istore_n (lv' := [(1, .int (minI (mnF (fun n => sqF bm (nI n) K) (okX gT (nI C)) C i) (sqF bm (nI (C + 1 + i)) K))), (0, .ref (q 0)), (2, .int (nI (C + 1 + i)))]) hx hb dX0_fewest_41 rfl hl (by decide) rfl (fun ls hl => ?_)
      refine lv_iinc (v := nI ((C + 1 + i) + 1)) (lv' := [(2, .int (nI ((C + 1 + i) + 1))), (1, .int (minI (mnF (fun n => sqF bm (nI n) K) (okX gT (nI C)) C i) (sqF bm (nI (C + 1 + i)) K))), (0, .ref (q 0))]) hx hb dX0_fewest_42 hl (k := 2) rfl (nI_1 _) (by decide) rfl (fun ls hl => ?_)
      refine lv_goto (tgt := 16) hx hb dX0_fewest_45 (by decide) ?_
      exact ih_16 _ (by omega) (by rw [mnF_t (w := (fun n => sqF bm (nI n) K)) (ok := (okX gT (nI C))) (decide_eq_true cz2)]; exact lv_sub hl [2, 1, 0] rfl)

theorem hdX0_turns : yX0_turns.cls = RX0 ∧ yX0_turns.cls ≠ "java/lang/invoke/MethodHandle" ∧ yX0_turns.cls ≠ "java/lang/invoke/VarHandle" ∧ (parseMethodDescriptor yX0_turns.desc).map (fun d => d.parameters.length) = some 0 := by decide +kernel
set_option maxHeartbeats 4000000 in
set_option maxRecDepth 100000 in
theorem kX0_turns {l : Launch} {D : va_G} {cy : ClassId} {H : Heap} {q : Nat → Nat} {gT gC : Int32} {ak : Int64} {ta pl cp kd fa fb bm sx sy : Nat → Int32} {N K S : Nat}  (hP : va_P D vwCl (wX cy q (nI N) gT gC (nI K) (nI S) ak ta pl cp kd fa fb bm sx sy) H)  (hN : N ≤ 12) : Met l yX0_turns wsX0_turns { frames := 0, cells := 0, slots := 0, locals := 0 } (pcK D cy H [.ref (q 0)]) (QcRead (tuF (N / 2))) 0 0 (fun _ => False) := by
  refine mV 3 (by decide) rfl (Nat.le_of_ble_eq_true rfl) ?_
  intro p e s m below meth c hx hb hml hr hlk hts hown hnm hK hH ls hl
  have hC := (⟨hx, hb, hml, hown, hts⟩ : CallFix p m c cX0_turns 3 s _ wsX0_turns RX0)
  have hin : ∀ w ∈ wsX00, w ∈ wsX0_turns := by decide +kernel
  have L7 : Cond.fieldLink RX0 7 "TwoColours" "thingCount" "I" ∈ wsX0_turns := by decide +kernel
  have hl : lv_has ls 3 [(0, .ref (q 0))] := hl
  refine lv_iconst (v := 0) hx hb dX0_turns_0 (by decide) ?_
  refine lv_istore_n (lv' := [(1, .int (0)), (0, .ref (q 0))]) hx hb dX0_turns_1 rfl hl (by decide) rfl (fun ls hl => ?_)
  refine lv_iconst (v := 1) hx hb dX0_turns_2 (by decide) ?_
  refine lv_istore_n (lv' := [(2, .int (1)), (1, .int (0)), (0, .ref (q 0))]) hx hb dX0_turns_3 rfl hl (by decide) rfl (fun ls hl => ?_)
  refine lpP 4 (fun i ls => lv_has ls 3 [(0, .ref (q 0)), (1, .int (tuF i)), (2, .int (nI (1 + 2 * i)))]) (N / 2) ?_ (0) ls (by omega) (lv_sub hl [2, 1, 0] rfl)
  intro i ls hi hl ih_4
  refine lv_iload_n hx hb dX0_turns_4 rfl (lv_at hl 2 rfl) ?_
  refine lv_aload_n hx hb dX0_turns_5 rfl (lv_at hl 0 rfl) ?_
  refine gX_thingCount hx hb hts hin hown hK hP L7 dX0_turns_6 ?_
  refine lv_icmp_ge (tgt := 24) hx hb dX0_turns_9 (by decide) (fun cz1 => ?_) (fun cz1 => ?_)
  · have cz1 : N ≤ (1 + 2 * i) := (nI_leI (a := N) (b := (1 + 2 * i)) (by omega) (by omega)).mp cz1
    refine lv_iload_n hx hb dX0_turns_24 rfl (lv_at hl 1 rfl) ?_
    exact rI hx hb hr hlk hH dX0_turns_25 (by rw [show i = N / 2 by omega])
  · have cz1 : ¬ N ≤ (1 + 2 * i) := fun h => cz1 ((nI_leI (a := N) (b := (1 + 2 * i)) (by omega) (by omega)).mpr h)
    refine lv_iload_n hx hb dX0_turns_12 rfl (lv_at hl 1 rfl) ?_
    refine lv_iconst (v := 1) hx hb dX0_turns_13 (by decide) ?_
    refine lv_iload_n hx hb dX0_turns_14 rfl (lv_at hl 2 rfl) ?_
    refine lv_ishl hx hb dX0_turns_15 ?_
    refine lv_ior hx hb dX0_turns_16 ?_
    refine lv_istore_n (lv' := [(1, .int ((tuF i) ||| ((1 : Int32) <<< ((nI (1 + 2 * i)) &&& 31)))), (0, .ref (q 0)), (2, .int (nI (1 + 2 * i)))]) hx hb dX0_turns_17 rfl hl (by decide) rfl (fun ls hl => ?_)
    refine lv_iinc (v := nI ((1 + 2 * i) + 2)) (lv' := [(2, .int (nI ((1 + 2 * i) + 2))), (1, .int ((tuF i) ||| ((1 : Int32) <<< ((nI (1 + 2 * i)) &&& 31)))), (0, .ref (q 0))]) hx hb dX0_turns_18 hl (k := 2) rfl (nI_add (1 + 2 * i) 2) (by decide) rfl (fun ls hl => ?_)
    refine lv_goto (tgt := 4) hx hb dX0_turns_21 (by decide) ?_
    exact ih_4 _ (by omega) (lv_sub hl [2, 1, 0] rfl)

theorem hdX0_colourOnComing : yX0_colourOnComing.cls = RX0 ∧ yX0_colourOnComing.cls ≠ "java/lang/invoke/MethodHandle" ∧ yX0_colourOnComing.cls ≠ "java/lang/invoke/VarHandle" ∧ (parseMethodDescriptor yX0_colourOnComing.desc).map (fun d => d.parameters.length) = some 2 := by decide +kernel
set_option maxHeartbeats 4000000 in
set_option maxRecDepth 100000 in
theorem kX0_colourOnComing {l : Launch} {D : va_G} {cy : ClassId} {H : Heap} {q : Nat → Nat} {gT gC : Int32} {ak : Int64} {ta pl cp kd fa fb bm sx sy : Nat → Int32} {N K S : Nat}  (hP : va_P D vwCl (wX cy q (nI N) gT gC (nI K) (nI S) ak ta pl cp kd fa fb bm sx sy) H) (t : Nat) (d : Int32) (hKn : K ≤ 10) (ht : t < 12) : Met l yX0_colourOnComing wsX0_colourOnComing { frames := 2, cells := 0, slots := 0, locals := 42 } (pcK D cy H [.ref (q 0), .int (nI t), .int d]) (QcRead (ccX bm K gT gC t d)) 0 0 (fun _ => False) := by
  refine mV 6 (by decide) rfl (Nat.le_of_ble_eq_true rfl) ?_
  intro p e s m below meth c hx hb hml hr hlk hts hown hnm hK hH ls hl
  have hC := (⟨hx, hb, hml, hown, hts⟩ : CallFix p m c cX0_colourOnComing 6 s _ wsX0_colourOnComing RX0)
  have hin : ∀ w ∈ wsX00, w ∈ wsX0_colourOnComing := by decide +kernel
  have L23 : Cond.fieldLink RX0 23 "TwoColours" "heldColours" "I" ∈ wsX0_colourOnComing := by decide +kernel
  have L29 : Cond.fieldLink RX0 29 "TwoColours" "heapCount" "I" ∈ wsX0_colourOnComing := by decide +kernel
  have L41 : Cond.fieldLink RX0 41 "TwoColours" "heapBits" "[I" ∈ wsX0_colourOnComing := by decide +kernel
  have hl : lv_has ls 6 [(0, .ref (q 0)), (1, .int (nI t)), (2, .int (d))] := hl
  refine lv_aload_n hx hb dX0_colourOnComing_0 rfl (lv_at hl 0 rfl) ?_
  refine lv_iload_n hx hb dX0_colourOnComing_1 rfl (lv_at hl 1 rfl) ?_
  refine cV (As := [.int (nI t)]) hC hK hP rfl rfl (kX0_isHeld hP (nI t) ) [] (cwV 1 hts gX0_colourOnComing_X0_isHeld rfl rfl rfl hdX0_isHeld ⟨Nat.le_of_ble_eq_true rfl, Nat.le_of_ble_eq_true rfl⟩) rfl hl.1 rfl (Nat.le_of_ble_eq_true rfl) dX0_colourOnComing_2 ⟨Nat.zero_le _, Nat.zero_le _⟩ ?_
  refine lv_if_eq (tgt := 17) hx hb dX0_colourOnComing_5 (by decide) (fun cz1 => ?_) (fun cz1 => ?_)
  · have cz1 := b2_0 cz1
    refine lv_iconst (v := 1) hx hb dX0_colourOnComing_17 (by decide) ?_
    refine lv_iload_n hx hb dX0_colourOnComing_18 rfl (lv_at hl 1 rfl) ?_
    refine lv_ishl hx hb dX0_colourOnComing_19 ?_
    refine lv_iconst (v := 1) hx hb dX0_colourOnComing_20 (by decide) ?_
    refine lv_isub hx hb dX0_colourOnComing_21 ?_
    refine lv_istore_n (lv' := [(3, .int (((1 : Int32) <<< ((nI t) &&& 31)) - ((1 : Int32)))), (0, .ref (q 0)), (1, .int (nI t)), (2, .int (d))]) hx hb dX0_colourOnComing_22 rfl hl (by decide) rfl (fun ls hl => ?_)
    refine lv_iconst (v := 0) hx hb dX0_colourOnComing_23 (by decide) ?_
    refine lv_istore (lv' := [(4, .int (0)), (3, .int (((1 : Int32) <<< ((nI t) &&& 31)) - ((1 : Int32)))), (0, .ref (q 0)), (1, .int (nI t)), (2, .int (d))]) hx hb dX0_colourOnComing_24 hl (by decide) rfl (fun ls hl => ?_)
    refine lv_iconst (v := 0) hx hb dX0_colourOnComing_26 (by decide) ?_
    refine lv_istore (lv' := [(5, .int (0)), (4, .int (0)), (3, .int (((1 : Int32) <<< ((nI t) &&& 31)) - ((1 : Int32)))), (0, .ref (q 0)), (1, .int (nI t)), (2, .int (d))]) hx hb dX0_colourOnComing_27 hl (by decide) rfl (fun ls hl => ?_)
    refine lpP 29 (fun i ls => lv_has ls 6 [(0, .ref (q 0)), (1, .int (nI t)), (2, .int (d)), (3, .int (((1 : Int32) <<< ((nI t) &&& 31)) - ((1 : Int32)))), (4, .int (cmF bm t d i)), (5, .int (nI i))]) (K) ?_ (0) ls (by omega) (lv_sub hl [3, 4, 5, 2, 1, 0] rfl)
    intro i ls hi hl ih_29
    refine lv_iload hx hb dX0_colourOnComing_29 (lv_at hl 5 rfl) ?_
    refine lv_aload_n hx hb dX0_colourOnComing_31 rfl (lv_at hl 0 rfl) ?_
    refine gX_heapCount hx hb hts hin hown hK hP L29 dX0_colourOnComing_32 ?_
    refine lv_icmp_ge (tgt := 77) hx hb dX0_colourOnComing_35 (by decide) (fun cz2 => ?_) (fun cz2 => ?_)
    · have cz2 : K ≤ i := (nI_leI (a := K) (b := i) (by omega) (by omega)).mp cz2
      have ei : K = i := by omega
      subst ei
      refine lv_iload hx hb dX0_colourOnComing_77 (lv_at hl 4 rfl) ?_
      refine lv_if_ge (tgt := 86) hx hb dX0_colourOnComing_79 (by decide) (fun cz3 => ?_) (fun cz3 => ?_)
      · refine lv_iconst (v := 0) hx hb dX0_colourOnComing_86 (by decide) ?_
        exact rI hx hb hr hlk hH dX0_colourOnComing_87 (by rw [ccX, if_neg cz1, if_neg (Int32.not_lt.mpr cz3)])
      · refine lv_iconst (v := 1) hx hb dX0_colourOnComing_82 (by decide) ?_
        refine lv_goto (tgt := 87) hx hb dX0_colourOnComing_83 (by decide) ?_
        exact rI hx hb hr hlk hH dX0_colourOnComing_87 (by rw [ccX, if_neg cz1, if_pos (Int32.not_le.mp cz3)])
    · have cz2 : ¬ K ≤ i := fun h => cz2 ((nI_leI (a := K) (b := i) (by omega) (by omega)).mpr h)
      refine lv_aload_n hx hb dX0_colourOnComing_38 rfl (lv_at hl 0 rfl) ?_
      refine gX_heapBits hx hb hts hin hown hK hP L41 dX0_colourOnComing_39 ?_
      refine lv_iload hx hb dX0_colourOnComing_42 (lv_at hl 5 rfl) ?_
      refine ldX_heapBits (j := i) hx hb hK hP rfl (by omega) dX0_colourOnComing_44 ?_
      refine lv_iload_n hx hb dX0_colourOnComing_45 rfl (lv_at hl 1 rfl) ?_
      refine cS (As := [.int (bm i), .int (nI t)]) hC (kX0_bitOf (bm i) (nI t) ) [] (va_cwS 2 hts gX0_colourOnComing_X0_bitOf rfl rfl rfl (by decide +kernel) ⟨Nat.le_of_ble_eq_true rfl, Nat.le_of_ble_eq_true rfl⟩) rfl hl.1 rfl (Nat.le_of_ble_eq_true rfl) dX0_colourOnComing_46 ⟨Nat.zero_le _, Nat.zero_le _⟩ ?_
      refine lv_iconst (v := 1) hx hb dX0_colourOnComing_49 (by decide) ?_
      refine lv_icmp_ne (tgt := 71) hx hb dX0_colourOnComing_50 (by decide) (fun cz4 => ?_) (fun cz4 => ?_)
      · refine lv_iinc (v := nI (i + 1)) (lv' := [(5, .int (nI (i + 1))), (0, .ref (q 0)), (1, .int (nI t)), (2, .int (d)), (3, .int (((1 : Int32) <<< ((nI t) &&& 31)) - ((1 : Int32)))), (4, .int (cmF bm t d i))]) hx hb dX0_colourOnComing_71 hl (k := 5) rfl (nI_1 _) (by decide) rfl (fun ls hl => ?_)
        refine lv_goto (tgt := 29) hx hb dX0_colourOnComing_74 (by decide) ?_
        exact ih_29 _ (by omega) (by rw [cmF_f (by assumption)]; exact lv_sub hl [1, 2, 3, 4, 5, 0] rfl)
      · refine lv_iload hx hb dX0_colourOnComing_53 (lv_at hl 4 rfl) ?_
        refine lv_aload_n hx hb dX0_colourOnComing_55 rfl (lv_at hl 0 rfl) ?_
        refine gX_heapBits hx hb hts hin hown hK hP L41 dX0_colourOnComing_56 ?_
        refine lv_iload hx hb dX0_colourOnComing_59 (lv_at hl 5 rfl) ?_
        refine ldX_heapBits (j := i) hx hb hK hP rfl (by omega) dX0_colourOnComing_61 ?_
        refine lv_iload_n hx hb dX0_colourOnComing_62 rfl (lv_at hl 3 rfl) ?_
        refine lv_iand hx hb dX0_colourOnComing_63 ?_
        refine lv_iload_n hx hb dX0_colourOnComing_64 rfl (lv_at hl 2 rfl) ?_
        refine cS (As := [.int ((bm i) &&& (((1 : Int32) <<< ((nI t) &&& 31)) - ((1 : Int32)))), .int (d)]) hC (kX0_leaning ((bm i) &&& (((1 : Int32) <<< ((nI t) &&& 31)) - ((1 : Int32)))) d ) [.int (cmF bm t d i)] (va_cwS 2 hts gX0_colourOnComing_X0_leaning rfl rfl rfl (by decide +kernel) ⟨Nat.le_of_ble_eq_true rfl, Nat.le_of_ble_eq_true rfl⟩) rfl hl.1 rfl (Nat.le_of_ble_eq_true rfl) dX0_colourOnComing_65 ⟨Nat.zero_le _, Nat.zero_le _⟩ ?_
        refine lv_iadd hx hb dX0_colourOnComing_68 ?_
        refine lv_istore (lv' := [(4, .int ((cmF bm t d i) + (leanI ((bm i) &&& (((1 : Int32) <<< ((nI t) &&& 31)) - ((1 : Int32)))) d))), (0, .ref (q 0)), (1, .int (nI t)), (2, .int (d)), (3, .int (((1 : Int32) <<< ((nI t) &&& 31)) - ((1 : Int32)))), (5, .int (nI i))]) hx hb dX0_colourOnComing_69 hl (by decide) rfl (fun ls hl => ?_)
        refine lv_iinc (v := nI (i + 1)) (lv' := [(5, .int (nI (i + 1))), (4, .int ((cmF bm t d i) + (leanI ((bm i) &&& (((1 : Int32) <<< ((nI t) &&& 31)) - ((1 : Int32)))) d))), (0, .ref (q 0)), (1, .int (nI t)), (2, .int (d)), (3, .int (((1 : Int32) <<< ((nI t) &&& 31)) - ((1 : Int32))))]) hx hb dX0_colourOnComing_71 hl (k := 5) rfl (nI_1 _) (by decide) rfl (fun ls hl => ?_)
        refine lv_goto (tgt := 29) hx hb dX0_colourOnComing_74 (by decide) ?_
        exact ih_29 _ (by omega) (by rw [cmF_t (by assumption)]; exact lv_sub hl [2, 3, 4, 5, 1, 0] rfl)
  · have cz1 := b2_1 cz1
    refine lv_aload_n hx hb dX0_colourOnComing_8 rfl (lv_at hl 0 rfl) ?_
    refine gX_heldColours hx hb hts hin hown hK hP L23 dX0_colourOnComing_9 ?_
    refine lv_iload_n hx hb dX0_colourOnComing_12 rfl (lv_at hl 1 rfl) ?_
    refine cS (As := [.int (gC), .int (nI t)]) hC (kX0_bitOf gC (nI t) ) [] (va_cwS 2 hts gX0_colourOnComing_X0_bitOf rfl rfl rfl (by decide +kernel) ⟨Nat.le_of_ble_eq_true rfl, Nat.le_of_ble_eq_true rfl⟩) rfl hl.1 rfl (Nat.le_of_ble_eq_true rfl) dX0_colourOnComing_13 ⟨Nat.zero_le _, Nat.zero_le _⟩ ?_
    exact rI hx hb hr hlk hH dX0_colourOnComing_16 (by rw [ccX, if_pos cz1])

theorem hdX0_come : yX0_come.cls = RX0 ∧ yX0_come.cls ≠ "java/lang/invoke/MethodHandle" ∧ yX0_come.cls ≠ "java/lang/invoke/VarHandle" ∧ (parseMethodDescriptor yX0_come.desc).map (fun d => d.parameters.length) = some 0 := by decide +kernel
set_option maxHeartbeats 4000000 in
set_option maxRecDepth 100000 in
theorem kX0_come {l : Launch} {D : va_G} {cy : ClassId} {H : Heap} {q : Nat → Nat} {gT gC : Int32} {ak : Int64} {ta pl cp kd fa fb bm sx sy : Nat → Int32} {N K S : Nat}  (hP : va_P D vwCl (wX cy q (nI N) gT gC (nI K) (nI S) ak ta pl cp kd fa fb bm sx sy) H)  (hN : N ≤ 12) (hKn : K ≤ 10) : Met l yX0_come wsX0_come { frames := 3, cells := 0, slots := 0, locals := 67 } (pcK D cy H [.ref (q 0)]) (QcRead (coF bm K gT gC N)) 0 0 (fun _ => False) := by
  refine mV 3 (by decide) rfl (Nat.le_of_ble_eq_true rfl) ?_
  intro p e s m below meth c hx hb hml hr hlk hts hown hnm hK hH ls hl
  have hC := (⟨hx, hb, hml, hown, hts⟩ : CallFix p m c cX0_come 3 s _ wsX0_come RX0)
  have hin : ∀ w ∈ wsX00, w ∈ wsX0_come := by decide +kernel
  have L7 : Cond.fieldLink RX0 7 "TwoColours" "thingCount" "I" ∈ wsX0_come := by decide +kernel
  have hl : lv_has ls 3 [(0, .ref (q 0))] := hl
  refine lv_iconst (v := 0) hx hb dX0_come_0 (by decide) ?_
  refine lv_istore_n (lv' := [(1, .int (0)), (0, .ref (q 0))]) hx hb dX0_come_1 rfl hl (by decide) rfl (fun ls hl => ?_)
  refine lv_iconst (v := 0) hx hb dX0_come_2 (by decide) ?_
  refine lv_istore_n (lv' := [(2, .int (0)), (1, .int (0)), (0, .ref (q 0))]) hx hb dX0_come_3 rfl hl (by decide) rfl (fun ls hl => ?_)
  refine lpP 4 (fun i ls => lv_has ls 3 [(0, .ref (q 0)), (1, .int (coF bm K gT gC i)), (2, .int (nI i))]) (N) ?_ (0) ls (by omega) (lv_sub hl [2, 1, 0] rfl)
  intro i ls hi hl ih_4
  refine lv_iload_n hx hb dX0_come_4 rfl (lv_at hl 2 rfl) ?_
  refine lv_aload_n hx hb dX0_come_5 rfl (lv_at hl 0 rfl) ?_
  refine gX_thingCount hx hb hts hin hown hK hP L7 dX0_come_6 ?_
  refine lv_icmp_ge (tgt := 29) hx hb dX0_come_9 (by decide) (fun cz1 => ?_) (fun cz1 => ?_)
  · have cz1 : N ≤ i := (nI_leI (a := N) (b := i) (by omega) (by omega)).mp cz1
    refine lv_iload_n hx hb dX0_come_29 rfl (lv_at hl 1 rfl) ?_
    exact rI hx hb hr hlk hH dX0_come_30 (by rw [show i = N by omega])
  · have cz1 : ¬ N ≤ i := fun h => cz1 ((nI_leI (a := N) (b := i) (by omega) (by omega)).mpr h)
    refine lv_iload_n hx hb dX0_come_12 rfl (lv_at hl 1 rfl) ?_
    refine lv_aload_n hx hb dX0_come_13 rfl (lv_at hl 0 rfl) ?_
    refine lv_iload_n hx hb dX0_come_14 rfl (lv_at hl 2 rfl) ?_
    refine lv_iload_n hx hb dX0_come_15 rfl (lv_at hl 1 rfl) ?_
    refine cV (As := [.int (nI i), .int (coF bm K gT gC i)]) hC hK hP rfl rfl (kX0_colourOnComing hP i (coF bm K gT gC i) (by omega) (by omega)) [.int (coF bm K gT gC i)] (cwV 2 hts gX0_come_X0_colourOnComing rfl rfl rfl hdX0_colourOnComing ⟨Nat.le_of_ble_eq_true rfl, Nat.le_of_ble_eq_true rfl⟩) rfl hl.1 rfl (Nat.le_of_ble_eq_true rfl) dX0_come_16 ⟨Nat.zero_le _, Nat.zero_le _⟩ ?_
    refine lv_iload_n hx hb dX0_come_19 rfl (lv_at hl 2 rfl) ?_
    refine lv_ishl hx hb dX0_come_20 ?_
    refine lv_ior hx hb dX0_come_21 ?_
    refine lv_istore_n (lv' := [(1, .int ((coF bm K gT gC i) ||| ((ccX bm K gT gC i (coF bm K gT gC i)) <<< ((nI i) &&& 31)))), (0, .ref (q 0)), (2, .int (nI i))]) hx hb dX0_come_22 rfl hl (by decide) rfl (fun ls hl => ?_)
    refine lv_iinc (v := nI (i + 1)) (lv' := [(2, .int (nI (i + 1))), (1, .int ((coF bm K gT gC i) ||| ((ccX bm K gT gC i (coF bm K gT gC i)) <<< ((nI i) &&& 31)))), (0, .ref (q 0))]) hx hb dX0_come_23 hl (k := 2) rfl (nI_1 _) (by decide) rfl (fun ls hl => ?_)
    refine lv_goto (tgt := 4) hx hb dX0_come_26 (by decide) ?_
    exact ih_4 _ (by omega) (lv_sub hl [2, 1, 0] rfl)
end
section
set_option maxHeartbeats 4000000 in
set_option maxRecDepth 100000 in
theorem kX0_isStepLength {l : Launch}  (k : Int32)  : Met l yX0_isStepLength wsX0_isStepLength { frames := 0, cells := 0, slots := 0, locals := 0 } (fun v _ => v = ([.int k] : List Value).toArray) (QcRead (b2 (-20 ≤ k ∧ k ≤ 20))) 0 0 (fun _ => False) := by
  refine mS 1 (by decide) rfl (Nat.le_of_ble_eq_true rfl) ?_
  intro p e s m below meth c hx hb hml hr hlk hts hown ls hl
  have hC := (⟨hx, hb, hml, hown, hts⟩ : CallFix p m c cX0_isStepLength 1 s _ wsX0_isStepLength RX0)
  have hl : lv_has ls 1 [(0, .int (k))] := hl
  refine lv_iload_n hx hb dX0_isStepLength_0 rfl (lv_at hl 0 rfl) ?_
  refine lv_bipush (v := (-20)) hx hb dX0_isStepLength_1 (by decide) ?_
  refine lv_icmp_lt (tgt := 16) hx hb dX0_isStepLength_3 (by decide) (fun cz1 => ?_) (fun cz1 => ?_)
  · refine lv_iconst (v := 0) hx hb dX0_isStepLength_16 (by decide) ?_
    exact rZ hx hb hr hlk rfl dX0_isStepLength_17 rfl (b2_f (by clear hl hC hts hown hx hb hr hlk hml; first | (simp_all [Int32.not_lt, Int32.not_le]; done) | grind))
  · refine lv_iload_n hx hb dX0_isStepLength_6 rfl (lv_at hl 0 rfl) ?_
    refine lv_bipush (v := 20) hx hb dX0_isStepLength_7 (by decide) ?_
    refine lv_icmp_gt (tgt := 16) hx hb dX0_isStepLength_9 (by decide) (fun cz2 => ?_) (fun cz2 => ?_)
    · refine lv_iconst (v := 0) hx hb dX0_isStepLength_16 (by decide) ?_
      exact rZ hx hb hr hlk rfl dX0_isStepLength_17 rfl (b2_f (by clear hl hC hts hown hx hb hr hlk hml; first | (simp_all [Int32.not_lt, Int32.not_le]; done) | grind))
    · refine lv_iconst (v := 1) hx hb dX0_isStepLength_12 (by decide) ?_
      refine lv_goto (tgt := 17) hx hb dX0_isStepLength_13 (by decide) ?_
      exact rZ hx hb hr hlk rfl dX0_isStepLength_17 rfl (b2_t (by clear hl hC hts hown hx hb hr hlk hml; first | (simp_all [Int32.not_lt, Int32.not_le]; done) | grind))

theorem hdX0_signingCount : yX0_signingCount.cls = RX0 ∧ yX0_signingCount.cls ≠ "java/lang/invoke/MethodHandle" ∧ yX0_signingCount.cls ≠ "java/lang/invoke/VarHandle" ∧ (parseMethodDescriptor yX0_signingCount.desc).map (fun d => d.parameters.length) = some 0 := by decide +kernel
set_option maxHeartbeats 4000000 in
set_option maxRecDepth 100000 in
theorem kX0_signingCount {l : Launch} {D : va_G} {cy : ClassId} {H : Heap} {q : Nat → Nat} {gT gC : Int32} {ak : Int64} {ta pl cp kd fa fb bm sx sy : Nat → Int32} {N K S : Nat}  (hP : va_P D vwCl (wX cy q (nI N) gT gC (nI K) (nI S) ak ta pl cp kd fa fb bm sx sy) H)  (hSn : S ≤ 10) : Met l yX0_signingCount wsX0_signingCount { frames := 0, cells := 0, slots := 0, locals := 0 } (pcK D cy H [.ref (q 0)]) (QcRead (nI (2 ^ S))) 0 0 (fun _ => False) := by
  refine mV 1 (by decide) rfl (Nat.le_of_ble_eq_true rfl) ?_
  intro p e s m below meth c hx hb hml hr hlk hts hown hnm hK hH ls hl
  have hC := (⟨hx, hb, hml, hown, hts⟩ : CallFix p m c cX0_signingCount 1 s _ wsX0_signingCount RX0)
  have hin : ∀ w ∈ wsX00, w ∈ wsX0_signingCount := by decide +kernel
  have L44 : Cond.fieldLink RX0 44 "TwoColours" "stepCount" "I" ∈ wsX0_signingCount := by decide +kernel
  have hl : lv_has ls 1 [(0, .ref (q 0))] := hl
  refine lv_iconst (v := 1) hx hb dX0_signingCount_0 (by decide) ?_
  refine lv_aload_n hx hb dX0_signingCount_1 rfl (lv_at hl 0 rfl) ?_
  refine gX_stepCount hx hb hts hin hown hK hP L44 dX0_signingCount_2 ?_
  refine lv_ishl hx hb dX0_signingCount_5 ?_
  exact rI hx hb hr hlk hH dX0_signingCount_6 (shl1 S (by omega))

set_option maxHeartbeats 4000000 in
set_option maxRecDepth 100000 in
theorem kX0_greaterSize {l : Launch}  (x : Int32) (y : Int32)  : Met l yX0_greaterSize wsX0_greaterSize { frames := 1, cells := 0, slots := 0, locals := 21 } (fun v _ => v = ([.int x, .int y] : List Value).toArray) (QcRead (gsz x y)) 0 0 (fun _ => False) := by
  refine mS 2 (by decide) rfl (Nat.le_of_ble_eq_true rfl) ?_
  intro p e s m below meth c hx hb hml hr hlk hts hown ls hl
  have hC := (⟨hx, hb, hml, hown, hts⟩ : CallFix p m c cX0_greaterSize 2 s _ wsX0_greaterSize RX0)
  have hl : lv_has ls 2 [(0, .int (x)), (1, .int (y))] := hl
  refine lv_iload_n hx hb dX0_greaterSize_0 rfl (lv_at hl 0 rfl) ?_
  refine va_mabs hx hb (hml.trans hl.1.symm) hown (hts (.methodLink RX0 148 Lib.Math.abs.name) (by decide +kernel)) (hts (.static Lib.Math.abs.name) (by decide +kernel)) (hts (.initialized "java/lang/Math") (by decide +kernel)) (hts (.code Lib.Math.abs.name Lib.Math.abs.code 1 (some .int)) (by decide +kernel)) (Nat.le_of_ble_eq_true rfl) (Nat.le_of_ble_eq_true rfl) (Nat.zero_le _) (Nat.zero_le _) dX0_greaterSize_1 ?_
  refine lv_iload_n hx hb dX0_greaterSize_4 rfl (lv_at hl 1 rfl) ?_
  refine va_mabs hx hb (hml.trans hl.1.symm) hown (hts (.methodLink RX0 148 Lib.Math.abs.name) (by decide +kernel)) (hts (.static Lib.Math.abs.name) (by decide +kernel)) (hts (.initialized "java/lang/Math") (by decide +kernel)) (hts (.code Lib.Math.abs.name Lib.Math.abs.code 1 (some .int)) (by decide +kernel)) (Nat.le_of_ble_eq_true rfl) (Nat.le_of_ble_eq_true rfl) (Nat.zero_le _) (Nat.zero_le _) dX0_greaterSize_5 ?_
  refine va_mmax hx hb (hml.trans hl.1.symm) hown (hts (.methodLink RX0 109 Lib.Math.max.name) (by decide +kernel)) (hts (.static Lib.Math.max.name) (by decide +kernel)) (hts (.initialized "java/lang/Math") (by decide +kernel)) (hts (.code Lib.Math.max.name Lib.Math.max.code 2 (some .int)) (by decide +kernel)) (Nat.le_of_ble_eq_true rfl) (Nat.le_of_ble_eq_true rfl) (Nat.zero_le _) (Nat.zero_le _) dX0_greaterSize_8 ?_
  exact rI hx hb hr hlk rfl dX0_greaterSize_11 rfl

theorem hdX0_strayOf : yX0_strayOf.cls = RX0 ∧ yX0_strayOf.cls ≠ "java/lang/invoke/MethodHandle" ∧ yX0_strayOf.cls ≠ "java/lang/invoke/VarHandle" ∧ (parseMethodDescriptor yX0_strayOf.desc).map (fun d => d.parameters.length) = some 1 := by decide +kernel
set_option maxHeartbeats 4000000 in
set_option maxRecDepth 100000 in
theorem kX0_strayOf {l : Launch} {D : va_G} {cy : ClassId} {H : Heap} {q : Nat → Nat} {gT gC : Int32} {ak : Int64} {ta pl cp kd fa fb bm sx sy : Nat → Int32} {N K S : Nat}  (hP : va_P D vwCl (wX cy q (nI N) gT gC (nI K) (nI S) ak ta pl cp kd fa fb bm sx sy) H) (k : Int32) (hSn : S ≤ 10) : Met l yX0_strayOf wsX0_strayOf { frames := 2, cells := 0, slots := 0, locals := 42 } (pcK D cy H [.ref (q 0), .int k]) (QcRead (stm sx sy k S)) 0 0 (fun _ => False) := by
  refine mV 7 (by decide) rfl (Nat.le_of_ble_eq_true rfl) ?_
  intro p e s m below meth c hx hb hml hr hlk hts hown hnm hK hH ls hl
  have hC := (⟨hx, hb, hml, hown, hts⟩ : CallFix p m c cX0_strayOf 7 s _ wsX0_strayOf RX0)
  have hin : ∀ w ∈ wsX00, w ∈ wsX0_strayOf := by decide +kernel
  have L44 : Cond.fieldLink RX0 44 "TwoColours" "stepCount" "I" ∈ wsX0_strayOf := by decide +kernel
  have L47 : Cond.fieldLink RX0 47 "TwoColours" "stepX" "[I" ∈ wsX0_strayOf := by decide +kernel
  have L50 : Cond.fieldLink RX0 50 "TwoColours" "stepY" "[I" ∈ wsX0_strayOf := by decide +kernel
  have hl : lv_has ls 7 [(0, .ref (q 0)), (1, .int (k))] := hl
  refine lv_iconst (v := 0) hx hb dX0_strayOf_0 (by decide) ?_
  refine lv_istore_n (lv' := [(2, .int (0)), (0, .ref (q 0)), (1, .int (k))]) hx hb dX0_strayOf_1 rfl hl (by decide) rfl (fun ls hl => ?_)
  refine lv_iconst (v := 0) hx hb dX0_strayOf_2 (by decide) ?_
  refine lv_istore_n (lv' := [(3, .int (0)), (2, .int (0)), (0, .ref (q 0)), (1, .int (k))]) hx hb dX0_strayOf_3 rfl hl (by decide) rfl (fun ls hl => ?_)
  refine lv_iconst (v := 0) hx hb dX0_strayOf_4 (by decide) ?_
  refine lv_istore (lv' := [(4, .int (0)), (3, .int (0)), (2, .int (0)), (0, .ref (q 0)), (1, .int (k))]) hx hb dX0_strayOf_5 hl (by decide) rfl (fun ls hl => ?_)
  refine lv_iconst (v := 0) hx hb dX0_strayOf_7 (by decide) ?_
  refine lv_istore (lv' := [(5, .int (0)), (4, .int (0)), (3, .int (0)), (2, .int (0)), (0, .ref (q 0)), (1, .int (k))]) hx hb dX0_strayOf_8 hl (by decide) rfl (fun ls hl => ?_)
  refine lpP 10 (fun i ls => lv_has ls 7 [(0, .ref (q 0)), (1, .int (k)), (2, .int (stx sx k i)), (3, .int (stx sy k i)), (4, .int (stm sx sy k i)), (5, .int (nI i))]) (S) ?_ (0) ls (by omega) (lv_sub hl [4, 5, 3, 2, 1, 0] rfl)
  intro i ls hi hl ih_10
  refine lv_iload hx hb dX0_strayOf_10 (lv_at hl 5 rfl) ?_
  refine lv_aload_n hx hb dX0_strayOf_12 rfl (lv_at hl 0 rfl) ?_
  refine gX_stepCount hx hb hts hin hown hK hP L44 dX0_strayOf_13 ?_
  refine lv_icmp_ge (tgt := 79) hx hb dX0_strayOf_16 (by decide) (fun cz1 => ?_) (fun cz1 => ?_)
  · have cz1 : S ≤ i := (nI_leI (a := S) (b := i) (by omega) (by omega)).mp cz1
    refine lv_iload hx hb dX0_strayOf_79 (lv_at hl 4 rfl) ?_
    exact rI hx hb hr hlk hH dX0_strayOf_81 (by rw [show i = S by omega])
  · have cz1 : ¬ S ≤ i := fun h => cz1 ((nI_leI (a := S) (b := i) (by omega) (by omega)).mpr h)
    refine lv_iload_n hx hb dX0_strayOf_19 rfl (lv_at hl 1 rfl) ?_
    refine lv_iload hx hb dX0_strayOf_20 (lv_at hl 5 rfl) ?_
    refine cS (As := [.int (k), .int (nI i)]) hC (kX0_bitOf k (nI i) ) [] (va_cwS 2 hts gX0_strayOf_X0_bitOf rfl rfl rfl (by decide +kernel) ⟨Nat.le_of_ble_eq_true rfl, Nat.le_of_ble_eq_true rfl⟩) rfl hl.1 rfl (Nat.le_of_ble_eq_true rfl) dX0_strayOf_22 ⟨Nat.zero_le _, Nat.zero_le _⟩ ?_
    refine lv_if_ne (tgt := 32) hx hb dX0_strayOf_25 (by decide) (fun cz2 => ?_) (fun cz2 => ?_)
    · refine lv_iconst (v := (-1)) hx hb dX0_strayOf_32 (by decide) ?_
      refine tpI (y := sgI k i) (by rw [sgI, if_neg cz2]) ?_
      refine lv_istore (lv' := [(6, .int (sgI k i)), (0, .ref (q 0)), (1, .int (k)), (2, .int (stx sx k i)), (3, .int (stx sy k i)), (4, .int (stm sx sy k i)), (5, .int (nI i))]) hx hb dX0_strayOf_33 hl (by decide) rfl (fun ls hl => ?_)
      refine lv_iload_n hx hb dX0_strayOf_35 rfl (lv_at hl 3 rfl) ?_
      refine lv_iload hx hb dX0_strayOf_36 (lv_at hl 0 rfl) ?_
      refine lv_aload_n hx hb dX0_strayOf_38 rfl (lv_at hl 1 rfl) ?_
      refine gX_stepX hx hb hts hin hown hK hP L47 dX0_strayOf_39 ?_
      refine lv_iload hx hb dX0_strayOf_42 (lv_at hl 6 rfl) ?_
      refine ldX_stepX (j := i) hx hb hK hP rfl (by omega) dX0_strayOf_44 ?_
      refine lv_imul hx hb dX0_strayOf_45 ?_
      refine lv_iadd hx hb dX0_strayOf_46 ?_
      refine lv_istore_n (lv' := [(2, .int ((stx sx k i) + ((sgI k i) * (sx i)))), (6, .int (sgI k i)), (0, .ref (q 0)), (1, .int (k)), (3, .int (stx sy k i)), (4, .int (stm sx sy k i)), (5, .int (nI i))]) hx hb dX0_strayOf_47 rfl hl (by decide) rfl (fun ls hl => ?_)
      refine lv_iload_n hx hb dX0_strayOf_48 rfl (lv_at hl 4 rfl) ?_
      refine lv_iload hx hb dX0_strayOf_49 (lv_at hl 1 rfl) ?_
      refine lv_aload_n hx hb dX0_strayOf_51 rfl (lv_at hl 2 rfl) ?_
      refine gX_stepY hx hb hts hin hown hK hP L50 dX0_strayOf_52 ?_
      refine lv_iload hx hb dX0_strayOf_55 (lv_at hl 6 rfl) ?_
      refine ldX_stepY (j := i) hx hb hK hP rfl (by omega) dX0_strayOf_57 ?_
      refine lv_imul hx hb dX0_strayOf_58 ?_
      refine lv_iadd hx hb dX0_strayOf_59 ?_
      refine lv_istore_n (lv' := [(3, .int ((stx sy k i) + ((sgI k i) * (sy i)))), (2, .int ((stx sx k i) + ((sgI k i) * (sx i)))), (6, .int (sgI k i)), (0, .ref (q 0)), (1, .int (k)), (4, .int (stm sx sy k i)), (5, .int (nI i))]) hx hb dX0_strayOf_60 rfl hl (by decide) rfl (fun ls hl => ?_)
      refine lv_iload hx hb dX0_strayOf_61 (lv_at hl 5 rfl) ?_
      refine lv_iload_n hx hb dX0_strayOf_63 rfl (lv_at hl 1 rfl) ?_
      refine lv_iload_n hx hb dX0_strayOf_64 rfl (lv_at hl 0 rfl) ?_
      refine cS (As := [.int ((stx sx k i) + ((sgI k i) * (sx i))), .int ((stx sy k i) + ((sgI k i) * (sy i)))]) hC (kX0_greaterSize ((stx sx k i) + ((sgI k i) * (sx i))) ((stx sy k i) + ((sgI k i) * (sy i))) ) [.int (stm sx sy k i)] (va_cwS 2 hts gX0_strayOf_X0_greaterSize rfl rfl rfl (by decide +kernel) ⟨Nat.le_of_ble_eq_true rfl, Nat.le_of_ble_eq_true rfl⟩) rfl hl.1 rfl (Nat.le_of_ble_eq_true rfl) dX0_strayOf_65 ⟨Nat.zero_le _, Nat.zero_le _⟩ ?_
      refine va_mmax hx hb (hml.trans hl.1.symm) hown (hts (.methodLink RX0 109 Lib.Math.max.name) (by decide +kernel)) (hts (.static Lib.Math.max.name) (by decide +kernel)) (hts (.initialized "java/lang/Math") (by decide +kernel)) (hts (.code Lib.Math.max.name Lib.Math.max.code 2 (some .int)) (by decide +kernel)) (Nat.le_of_ble_eq_true rfl) (Nat.le_of_ble_eq_true rfl) (Nat.zero_le _) (Nat.zero_le _) dX0_strayOf_68 ?_
      refine lv_istore (lv' := [(4, .int (maxI (stm sx sy k i) (gsz ((stx sx k i) + ((sgI k i) * (sx i))) ((stx sy k i) + ((sgI k i) * (sy i)))))), (3, .int ((stx sy k i) + ((sgI k i) * (sy i)))), (2, .int ((stx sx k i) + ((sgI k i) * (sx i)))), (6, .int (sgI k i)), (0, .ref (q 0)), (1, .int (k)), (5, .int (nI i))]) hx hb dX0_strayOf_71 hl (by decide) rfl (fun ls hl => ?_)
      refine lv_iinc (v := nI (i + 1)) (lv' := [(5, .int (nI (i + 1))), (4, .int (maxI (stm sx sy k i) (gsz ((stx sx k i) + ((sgI k i) * (sx i))) ((stx sy k i) + ((sgI k i) * (sy i)))))), (3, .int ((stx sy k i) + ((sgI k i) * (sy i)))), (2, .int ((stx sx k i) + ((sgI k i) * (sx i)))), (6, .int (sgI k i)), (0, .ref (q 0)), (1, .int (k))]) hx hb dX0_strayOf_73 hl (k := 6) rfl (nI_1 _) (by decide) rfl (fun ls hl => ?_)
      refine lv_goto (tgt := 10) hx hb dX0_strayOf_76 (by decide) ?_
      exact ih_10 _ (by omega) (lv_sub hl [5, 6, 3, 2, 1, 0] rfl)
    · refine lv_iconst (v := 1) hx hb dX0_strayOf_28 (by decide) ?_
      refine lv_goto (tgt := 33) hx hb dX0_strayOf_29 (by decide) ?_
      refine tpI (y := sgI k i) (by rw [sgI, if_pos cz2]) ?_
      refine lv_istore (lv' := [(6, .int (sgI k i)), (0, .ref (q 0)), (1, .int (k)), (2, .int (stx sx k i)), (3, .int (stx sy k i)), (4, .int (stm sx sy k i)), (5, .int (nI i))]) hx hb dX0_strayOf_33 hl (by decide) rfl (fun ls hl => ?_)
      refine lv_iload_n hx hb dX0_strayOf_35 rfl (lv_at hl 3 rfl) ?_
      refine lv_iload hx hb dX0_strayOf_36 (lv_at hl 0 rfl) ?_
      refine lv_aload_n hx hb dX0_strayOf_38 rfl (lv_at hl 1 rfl) ?_
      refine gX_stepX hx hb hts hin hown hK hP L47 dX0_strayOf_39 ?_
      refine lv_iload hx hb dX0_strayOf_42 (lv_at hl 6 rfl) ?_
      refine ldX_stepX (j := i) hx hb hK hP rfl (by omega) dX0_strayOf_44 ?_
      refine lv_imul hx hb dX0_strayOf_45 ?_
      refine lv_iadd hx hb dX0_strayOf_46 ?_
      refine lv_istore_n (lv' := [(2, .int ((stx sx k i) + ((sgI k i) * (sx i)))), (6, .int (sgI k i)), (0, .ref (q 0)), (1, .int (k)), (3, .int (stx sy k i)), (4, .int (stm sx sy k i)), (5, .int (nI i))]) hx hb dX0_strayOf_47 rfl hl (by decide) rfl (fun ls hl => ?_)
      refine lv_iload_n hx hb dX0_strayOf_48 rfl (lv_at hl 4 rfl) ?_
      refine lv_iload hx hb dX0_strayOf_49 (lv_at hl 1 rfl) ?_
      refine lv_aload_n hx hb dX0_strayOf_51 rfl (lv_at hl 2 rfl) ?_
      refine gX_stepY hx hb hts hin hown hK hP L50 dX0_strayOf_52 ?_
      refine lv_iload hx hb dX0_strayOf_55 (lv_at hl 6 rfl) ?_
      refine ldX_stepY (j := i) hx hb hK hP rfl (by omega) dX0_strayOf_57 ?_
      refine lv_imul hx hb dX0_strayOf_58 ?_
      refine lv_iadd hx hb dX0_strayOf_59 ?_
      refine lv_istore_n (lv' := [(3, .int ((stx sy k i) + ((sgI k i) * (sy i)))), (2, .int ((stx sx k i) + ((sgI k i) * (sx i)))), (6, .int (sgI k i)), (0, .ref (q 0)), (1, .int (k)), (4, .int (stm sx sy k i)), (5, .int (nI i))]) hx hb dX0_strayOf_60 rfl hl (by decide) rfl (fun ls hl => ?_)
      refine lv_iload hx hb dX0_strayOf_61 (lv_at hl 5 rfl) ?_
      refine lv_iload_n hx hb dX0_strayOf_63 rfl (lv_at hl 1 rfl) ?_
      refine lv_iload_n hx hb dX0_strayOf_64 rfl (lv_at hl 0 rfl) ?_
      refine cS (As := [.int ((stx sx k i) + ((sgI k i) * (sx i))), .int ((stx sy k i) + ((sgI k i) * (sy i)))]) hC (kX0_greaterSize ((stx sx k i) + ((sgI k i) * (sx i))) ((stx sy k i) + ((sgI k i) * (sy i))) ) [.int (stm sx sy k i)] (va_cwS 2 hts gX0_strayOf_X0_greaterSize rfl rfl rfl (by decide +kernel) ⟨Nat.le_of_ble_eq_true rfl, Nat.le_of_ble_eq_true rfl⟩) rfl hl.1 rfl (Nat.le_of_ble_eq_true rfl) dX0_strayOf_65 ⟨Nat.zero_le _, Nat.zero_le _⟩ ?_
      refine va_mmax hx hb (hml.trans hl.1.symm) hown (hts (.methodLink RX0 109 Lib.Math.max.name) (by decide +kernel)) (hts (.static Lib.Math.max.name) (by decide +kernel)) (hts (.initialized "java/lang/Math") (by decide +kernel)) (hts (.code Lib.Math.max.name Lib.Math.max.code 2 (some .int)) (by decide +kernel)) (Nat.le_of_ble_eq_true rfl) (Nat.le_of_ble_eq_true rfl) (Nat.zero_le _) (Nat.zero_le _) dX0_strayOf_68 ?_
      refine lv_istore (lv' := [(4, .int (maxI (stm sx sy k i) (gsz ((stx sx k i) + ((sgI k i) * (sx i))) ((stx sy k i) + ((sgI k i) * (sy i)))))), (3, .int ((stx sy k i) + ((sgI k i) * (sy i)))), (2, .int ((stx sx k i) + ((sgI k i) * (sx i)))), (6, .int (sgI k i)), (0, .ref (q 0)), (1, .int (k)), (5, .int (nI i))]) hx hb dX0_strayOf_71 hl (by decide) rfl (fun ls hl => ?_)
      refine lv_iinc (v := nI (i + 1)) (lv' := [(5, .int (nI (i + 1))), (4, .int (maxI (stm sx sy k i) (gsz ((stx sx k i) + ((sgI k i) * (sx i))) ((stx sy k i) + ((sgI k i) * (sy i)))))), (3, .int ((stx sy k i) + ((sgI k i) * (sy i)))), (2, .int ((stx sx k i) + ((sgI k i) * (sx i)))), (6, .int (sgI k i)), (0, .ref (q 0)), (1, .int (k))]) hx hb dX0_strayOf_73 hl (k := 6) rfl (nI_1 _) (by decide) rfl (fun ls hl => ?_)
      refine lv_goto (tgt := 10) hx hb dX0_strayOf_76 (by decide) ?_
      exact ih_10 _ (by omega) (lv_sub hl [5, 6, 3, 2, 1, 0] rfl)

theorem hdX0_straightest : yX0_straightest.cls = RX0 ∧ yX0_straightest.cls ≠ "java/lang/invoke/MethodHandle" ∧ yX0_straightest.cls ≠ "java/lang/invoke/VarHandle" ∧ (parseMethodDescriptor yX0_straightest.desc).map (fun d => d.parameters.length) = some 0 := by decide +kernel
set_option maxHeartbeats 4000000 in
set_option maxRecDepth 100000 in
theorem kX0_straightest {l : Launch} {D : va_G} {cy : ClassId} {H : Heap} {q : Nat → Nat} {gT gC : Int32} {ak : Int64} {ta pl cp kd fa fb bm sx sy : Nat → Int32} {N K S : Nat}  (hP : va_P D vwCl (wX cy q (nI N) gT gC (nI K) (nI S) ak ta pl cp kd fa fb bm sx sy) H)  (hSn : S ≤ 10) : Met l yX0_straightest wsX0_straightest { frames := 3, cells := 0, slots := 0, locals := 68 } (pcK D cy H [.ref (q 0)]) (QcRead (nI (beS sx sy S))) 0 0 (fun _ => False) := by
  refine mV 5 (by decide) rfl (Nat.le_of_ble_eq_true rfl) ?_
  intro p e s m below meth c hx hb hml hr hlk hts hown hnm hK hH ls hl
  have hC := (⟨hx, hb, hml, hown, hts⟩ : CallFix p m c cX0_straightest 5 s _ wsX0_straightest RX0)
  have hl : lv_has ls 5 [(0, .ref (q 0))] := hl
  have h2S := p2_le (n := S) (by omega)
  have h2P := p2_pos S
  refine lv_iconst (v := 0) hx hb dX0_straightest_0 (by decide) ?_
  refine lv_istore_n (lv' := [(1, .int (0)), (0, .ref (q 0))]) hx hb dX0_straightest_1 rfl hl (by decide) rfl (fun ls hl => ?_)
  refine lv_aload_n hx hb dX0_straightest_2 rfl (lv_at hl 1 rfl) ?_
  refine lv_iload_n hx hb dX0_straightest_3 rfl (lv_at hl 0 rfl) ?_
  refine cV (As := [.int (0)]) hC hK hP rfl rfl (kX0_strayOf hP 0 (by omega)) [] (cwV 1 hts gX0_straightest_X0_strayOf rfl rfl rfl hdX0_strayOf ⟨Nat.le_of_ble_eq_true rfl, Nat.le_of_ble_eq_true rfl⟩) rfl hl.1 rfl (Nat.le_of_ble_eq_true rfl) dX0_straightest_4 ⟨Nat.zero_le _, Nat.zero_le _⟩ ?_
  refine lv_istore_n (lv' := [(2, .int (stm sx sy (0 : Int32) S)), (1, .int (0)), (0, .ref (q 0))]) hx hb dX0_straightest_7 rfl hl (by decide) rfl (fun ls hl => ?_)
  refine lv_iconst (v := 1) hx hb dX0_straightest_8 (by decide) ?_
  refine lv_istore_n (lv' := [(3, .int (1)), (2, .int (stm sx sy (0 : Int32) S)), (1, .int (0)), (0, .ref (q 0))]) hx hb dX0_straightest_9 rfl hl (by decide) rfl (fun ls hl => ?_)
  refine lpP 10 (fun i ls => lv_has ls 5 [(0, .ref (q 0)), (1, .int (nI (amF (fun n => stm sx sy (nI n) S) (fun _ => true) 0 i))), (2, .int (stm sx sy (nI (amF (fun n => stm sx sy (nI n) S) (fun _ => true) 0 i)) S)), (3, .int (nI (0 + 1 + i)))]) (2 ^ S - 1) ?_ (0) ls (by omega) (lv_sub hl [3, 2, 1, 0] rfl)
  intro i ls hi hl ih_10
  refine lv_iload_n hx hb dX0_straightest_10 rfl (lv_at hl 3 rfl) ?_
  refine lv_aload_n hx hb dX0_straightest_11 rfl (lv_at hl 0 rfl) ?_
  refine cV (As := []) hC hK hP rfl rfl (kX0_signingCount hP  (by omega)) [.int (nI (0 + 1 + i))] (cwV 0 hts gX0_straightest_X0_signingCount rfl rfl rfl hdX0_signingCount ⟨Nat.le_of_ble_eq_true rfl, Nat.le_of_ble_eq_true rfl⟩) rfl hl.1 rfl (Nat.le_of_ble_eq_true rfl) dX0_straightest_12 ⟨Nat.zero_le _, Nat.zero_le _⟩ ?_
  refine lv_icmp_ge (tgt := 42) hx hb dX0_straightest_15 (by decide) (fun cz1 => ?_) (fun cz1 => ?_)
  · have cz1 : (2 ^ S) ≤ (0 + 1 + i) := (nI_leI (a := (2 ^ S)) (b := (0 + 1 + i)) (by omega) (by omega)).mp cz1
    refine lv_iload_n hx hb dX0_straightest_42 rfl (lv_at hl 1 rfl) ?_
    exact rI hx hb hr hlk hH dX0_straightest_43 (by rw [show i = 2 ^ S - 1 by omega]; rfl)
  · have cz1 : ¬ (2 ^ S) ≤ (0 + 1 + i) := fun h => cz1 ((nI_leI (a := (2 ^ S)) (b := (0 + 1 + i)) (by omega) (by omega)).mpr h)
    refine lv_aload_n hx hb dX0_straightest_18 rfl (lv_at hl 0 rfl) ?_
    refine lv_iload_n hx hb dX0_straightest_19 rfl (lv_at hl 3 rfl) ?_
    refine cV (As := [.int (nI (0 + 1 + i))]) hC hK hP rfl rfl (kX0_strayOf hP (nI (0 + 1 + i)) (by omega)) [] (cwV 1 hts gX0_straightest_X0_strayOf rfl rfl rfl hdX0_strayOf ⟨Nat.le_of_ble_eq_true rfl, Nat.le_of_ble_eq_true rfl⟩) rfl hl.1 rfl (Nat.le_of_ble_eq_true rfl) dX0_straightest_20 ⟨Nat.zero_le _, Nat.zero_le _⟩ ?_
    refine lv_istore (lv' := [(4, .int (stm sx sy (nI (0 + 1 + i)) S)), (0, .ref (q 0)), (1, .int (nI (amF (fun n => stm sx sy (nI n) S) (fun _ => true) 0 i))), (2, .int (stm sx sy (nI (amF (fun n => stm sx sy (nI n) S) (fun _ => true) 0 i)) S)), (3, .int (nI (0 + 1 + i)))]) hx hb dX0_straightest_23 hl (by decide) rfl (fun ls hl => ?_)
    refine lv_iload hx hb dX0_straightest_25 (lv_at hl 0 rfl) ?_
    refine lv_iload_n hx hb dX0_straightest_27 rfl (lv_at hl 3 rfl) ?_
    refine lv_icmp_ge (tgt := 36) hx hb dX0_straightest_28 (by decide) (fun cz2 => ?_) (fun cz2 => ?_)
    · refine lv_iinc (v := nI ((0 + 1 + i) + 1)) (lv' := [(3, .int (nI ((0 + 1 + i) + 1))), (4, .int (stm sx sy (nI (0 + 1 + i)) S)), (0, .ref (q 0)), (1, .int (nI (amF (fun n => stm sx sy (nI n) S) (fun _ => true) 0 i))), (2, .int (stm sx sy (nI (amF (fun n => stm sx sy (nI n) S) (fun _ => true) 0 i)) S))]) hx hb dX0_straightest_36 hl (k := 4) rfl (nI_1 _) (by decide) rfl (fun ls hl => ?_)
      refine lv_goto (tgt := 10) hx hb dX0_straightest_39 (by decide) ?_
      exact ih_10 _ (by omega) (by rw [amF_f (w := (fun n => stm sx sy (nI n) S)) (ok := fun _ => true) (Int32.not_lt.mpr cz2)]; exact lv_sub hl [2, 3, 4, 0] rfl)
    · refine lv_iload hx hb dX0_straightest_31 (lv_at hl 0 rfl) ?_
      refine lv_istore_n (lv' := [(2, .int (stm sx sy (nI (0 + 1 + i)) S)), (4, .int (stm sx sy (nI (0 + 1 + i)) S)), (0, .ref (q 0)), (1, .int (nI (amF (fun n => stm sx sy (nI n) S) (fun _ => true) 0 i))), (3, .int (nI (0 + 1 + i)))]) hx hb dX0_straightest_33 rfl hl (by decide) rfl (fun ls hl => ?_)
      refine lv_iload_n hx hb dX0_straightest_34 rfl (lv_at hl 4 rfl) ?_
      refine lv_istore_n (lv' := [(1, .int (nI (0 + 1 + i))), (2, .int (stm sx sy (nI (0 + 1 + i)) S)), (4, .int (stm sx sy (nI (0 + 1 + i)) S)), (0, .ref (q 0)), (3, .int (nI (0 + 1 + i)))]) hx hb dX0_straightest_35 rfl hl (by decide) rfl (fun ls hl => ?_)
      refine lv_iinc (v := nI ((0 + 1 + i) + 1)) (lv' := [(3, .int (nI ((0 + 1 + i) + 1))), (1, .int (nI (0 + 1 + i))), (2, .int (stm sx sy (nI (0 + 1 + i)) S)), (4, .int (stm sx sy (nI (0 + 1 + i)) S)), (0, .ref (q 0))]) hx hb dX0_straightest_36 hl (k := 4) rfl (nI_1 _) (by decide) rfl (fun ls hl => ?_)
      refine lv_goto (tgt := 10) hx hb dX0_straightest_39 (by decide) ?_
      exact ih_10 _ (by omega) (by rw [amF_t (w := (fun n => stm sx sy (nI n) S)) (ok := fun _ => true) rfl (Int32.not_le.mp cz2)]; exact lv_sub hl [4, 1, 2, 0] rfl)

theorem hdX0_nearest : yX0_nearest.cls = RX0 ∧ yX0_nearest.cls ≠ "java/lang/invoke/MethodHandle" ∧ yX0_nearest.cls ≠ "java/lang/invoke/VarHandle" ∧ (parseMethodDescriptor yX0_nearest.desc).map (fun d => d.parameters.length) = some 0 := by decide +kernel
set_option maxHeartbeats 4000000 in
set_option maxRecDepth 100000 in
theorem kX0_nearest {l : Launch} {D : va_G} {cy : ClassId} {H : Heap} {q : Nat → Nat} {gT gC : Int32} {ak : Int64} {ta pl cp kd fa fb bm sx sy : Nat → Int32} {N K S : Nat}  (hP : va_P D vwCl (wX cy q (nI N) gT gC (nI K) (nI S) ak ta pl cp kd fa fb bm sx sy) H)  (hSn : S ≤ 10) : Met l yX0_nearest wsX0_nearest { frames := 2, cells := 0, slots := 0, locals := 42 } (pcK D cy H [.ref (q 0)]) (QcRead ((nef sx sy S).2.2)) 0 0 (fun _ => False) := by
  refine mV 6 (by decide) rfl (Nat.le_of_ble_eq_true rfl) ?_
  intro p e s m below meth c hx hb hml hr hlk hts hown hnm hK hH ls hl
  have hC := (⟨hx, hb, hml, hown, hts⟩ : CallFix p m c cX0_nearest 6 s _ wsX0_nearest RX0)
  have hin : ∀ w ∈ wsX00, w ∈ wsX0_nearest := by decide +kernel
  have L44 : Cond.fieldLink RX0 44 "TwoColours" "stepCount" "I" ∈ wsX0_nearest := by decide +kernel
  have L47 : Cond.fieldLink RX0 47 "TwoColours" "stepX" "[I" ∈ wsX0_nearest := by decide +kernel
  have L50 : Cond.fieldLink RX0 50 "TwoColours" "stepY" "[I" ∈ wsX0_nearest := by decide +kernel
  have hl : lv_has ls 6 [(0, .ref (q 0))] := hl
  refine lv_iconst (v := 0) hx hb dX0_nearest_0 (by decide) ?_
  refine lv_istore_n (lv' := [(1, .int (0)), (0, .ref (q 0))]) hx hb dX0_nearest_1 rfl hl (by decide) rfl (fun ls hl => ?_)
  refine lv_iconst (v := 0) hx hb dX0_nearest_2 (by decide) ?_
  refine lv_istore_n (lv' := [(2, .int (0)), (1, .int (0)), (0, .ref (q 0))]) hx hb dX0_nearest_3 rfl hl (by decide) rfl (fun ls hl => ?_)
  refine lv_iconst (v := 0) hx hb dX0_nearest_4 (by decide) ?_
  refine lv_istore_n (lv' := [(3, .int (0)), (2, .int (0)), (1, .int (0)), (0, .ref (q 0))]) hx hb dX0_nearest_5 rfl hl (by decide) rfl (fun ls hl => ?_)
  refine lv_iconst (v := 0) hx hb dX0_nearest_6 (by decide) ?_
  refine lv_istore (lv' := [(4, .int (0)), (3, .int (0)), (2, .int (0)), (1, .int (0)), (0, .ref (q 0))]) hx hb dX0_nearest_7 hl (by decide) rfl (fun ls hl => ?_)
  refine lpP 9 (fun i ls => lv_has ls 6 [(0, .ref (q 0)), (1, .int ((nef sx sy i).1)), (2, .int ((nef sx sy i).2.1)), (3, .int ((nef sx sy i).2.2)), (4, .int (nI i))]) (S) ?_ (0) ls (by omega) (lv_sub hl [4, 3, 2, 1, 0] rfl)
  intro i ls hi hl ih_9
  refine lv_iload hx hb dX0_nearest_9 (lv_at hl 4 rfl) ?_
  refine lv_aload_n hx hb dX0_nearest_11 rfl (lv_at hl 0 rfl) ?_
  refine gX_stepCount hx hb hts hin hown hK hP L44 dX0_nearest_12 ?_
  refine lv_icmp_ge (tgt := 108) hx hb dX0_nearest_15 (by decide) (fun cz1 => ?_) (fun cz1 => ?_)
  · have cz1 : S ≤ i := (nI_leI (a := S) (b := i) (by omega) (by omega)).mp cz1
    refine lv_iload_n hx hb dX0_nearest_108 rfl (lv_at hl 3 rfl) ?_
    exact rI hx hb hr hlk hH dX0_nearest_109 (by rw [show i = S by omega])
  · have cz1 : ¬ S ≤ i := fun h => cz1 ((nI_leI (a := S) (b := i) (by omega) (by omega)).mpr h)
    refine lv_iconst (v := 1) hx hb dX0_nearest_18 (by decide) ?_
    refine lv_istore (lv' := [(5, .int (1)), (0, .ref (q 0)), (1, .int ((nef sx sy i).1)), (2, .int ((nef sx sy i).2.1)), (3, .int ((nef sx sy i).2.2)), (4, .int (nI i))]) hx hb dX0_nearest_19 hl (by decide) rfl (fun ls hl => ?_)
    refine lv_iload_n hx hb dX0_nearest_21 rfl (lv_at hl 2 rfl) ?_
    refine lv_aload_n hx hb dX0_nearest_22 rfl (lv_at hl 1 rfl) ?_
    refine gX_stepX hx hb hts hin hown hK hP L47 dX0_nearest_23 ?_
    refine lv_iload hx hb dX0_nearest_26 (lv_at hl 5 rfl) ?_
    refine ldX_stepX (j := i) hx hb hK hP rfl (by omega) dX0_nearest_28 ?_
    refine lv_isub hx hb dX0_nearest_29 ?_
    refine lv_iload_n hx hb dX0_nearest_30 rfl (lv_at hl 3 rfl) ?_
    refine lv_aload_n hx hb dX0_nearest_31 rfl (lv_at hl 1 rfl) ?_
    refine gX_stepY hx hb hts hin hown hK hP L50 dX0_nearest_32 ?_
    refine lv_iload hx hb dX0_nearest_35 (lv_at hl 5 rfl) ?_
    refine ldX_stepY (j := i) hx hb hK hP rfl (by omega) dX0_nearest_37 ?_
    refine lv_isub hx hb dX0_nearest_38 ?_
    refine cS (As := [.int (((nef sx sy i).1) - (sx i)), .int (((nef sx sy i).2.1) - (sy i))]) hC (kX0_greaterSize (((nef sx sy i).1) - (sx i)) (((nef sx sy i).2.1) - (sy i)) ) [] (va_cwS 2 hts gX0_nearest_X0_greaterSize rfl rfl rfl (by decide +kernel) ⟨Nat.le_of_ble_eq_true rfl, Nat.le_of_ble_eq_true rfl⟩) rfl hl.1 rfl (Nat.le_of_ble_eq_true rfl) dX0_nearest_39 ⟨Nat.zero_le _, Nat.zero_le _⟩ ?_
    refine lv_iload_n hx hb dX0_nearest_42 rfl (lv_at hl 2 rfl) ?_
    refine lv_aload_n hx hb dX0_nearest_43 rfl (lv_at hl 1 rfl) ?_
    refine gX_stepX hx hb hts hin hown hK hP L47 dX0_nearest_44 ?_
    refine lv_iload hx hb dX0_nearest_47 (lv_at hl 5 rfl) ?_
    refine ldX_stepX (j := i) hx hb hK hP rfl (by omega) dX0_nearest_49 ?_
    refine lv_iadd hx hb dX0_nearest_50 ?_
    refine lv_iload_n hx hb dX0_nearest_51 rfl (lv_at hl 3 rfl) ?_
    refine lv_aload_n hx hb dX0_nearest_52 rfl (lv_at hl 1 rfl) ?_
    refine gX_stepY hx hb hts hin hown hK hP L50 dX0_nearest_53 ?_
    refine lv_iload hx hb dX0_nearest_56 (lv_at hl 5 rfl) ?_
    refine ldX_stepY (j := i) hx hb hK hP rfl (by omega) dX0_nearest_58 ?_
    refine lv_iadd hx hb dX0_nearest_59 ?_
    refine cS (As := [.int (((nef sx sy i).1) + (sx i)), .int (((nef sx sy i).2.1) + (sy i))]) hC (kX0_greaterSize (((nef sx sy i).1) + (sx i)) (((nef sx sy i).2.1) + (sy i)) ) [.int (gsz (((nef sx sy i).1) - (sx i)) (((nef sx sy i).2.1) - (sy i)))] (va_cwS 2 hts gX0_nearest_X0_greaterSize rfl rfl rfl (by decide +kernel) ⟨Nat.le_of_ble_eq_true rfl, Nat.le_of_ble_eq_true rfl⟩) rfl hl.1 rfl (Nat.le_of_ble_eq_true rfl) dX0_nearest_60 ⟨Nat.zero_le _, Nat.zero_le _⟩ ?_
    refine lv_icmp_ge (tgt := 76) hx hb dX0_nearest_63 (by decide) (fun cz2 => ?_) (fun cz2 => ?_)
    · refine lv_iload_n hx hb dX0_nearest_76 rfl (lv_at hl 2 rfl) ?_
      refine lv_iload hx hb dX0_nearest_77 (lv_at hl 0 rfl) ?_
      refine lv_aload_n hx hb dX0_nearest_79 rfl (lv_at hl 1 rfl) ?_
      refine gX_stepX hx hb hts hin hown hK hP L47 dX0_nearest_80 ?_
      refine lv_iload hx hb dX0_nearest_83 (lv_at hl 5 rfl) ?_
      refine ldX_stepX (j := i) hx hb hK hP rfl (by omega) dX0_nearest_85 ?_
      refine lv_imul hx hb dX0_nearest_86 ?_
      refine lv_iadd hx hb dX0_nearest_87 ?_
      refine lv_istore_n (lv' := [(1, .int (((nef sx sy i).1) + ((1 : Int32) * (sx i)))), (5, .int (1)), (0, .ref (q 0)), (2, .int ((nef sx sy i).2.1)), (3, .int ((nef sx sy i).2.2)), (4, .int (nI i))]) hx hb dX0_nearest_88 rfl hl (by decide) rfl (fun ls hl => ?_)
      refine lv_iload_n hx hb dX0_nearest_89 rfl (lv_at hl 3 rfl) ?_
      refine lv_iload hx hb dX0_nearest_90 (lv_at hl 1 rfl) ?_
      refine lv_aload_n hx hb dX0_nearest_92 rfl (lv_at hl 2 rfl) ?_
      refine gX_stepY hx hb hts hin hown hK hP L50 dX0_nearest_93 ?_
      refine lv_iload hx hb dX0_nearest_96 (lv_at hl 5 rfl) ?_
      refine ldX_stepY (j := i) hx hb hK hP rfl (by omega) dX0_nearest_98 ?_
      refine lv_imul hx hb dX0_nearest_99 ?_
      refine lv_iadd hx hb dX0_nearest_100 ?_
      refine lv_istore_n (lv' := [(2, .int (((nef sx sy i).2.1) + ((1 : Int32) * (sy i)))), (1, .int (((nef sx sy i).1) + ((1 : Int32) * (sx i)))), (5, .int (1)), (0, .ref (q 0)), (3, .int ((nef sx sy i).2.2)), (4, .int (nI i))]) hx hb dX0_nearest_101 rfl hl (by decide) rfl (fun ls hl => ?_)
      refine lv_iinc (v := nI (i + 1)) (lv' := [(4, .int (nI (i + 1))), (2, .int (((nef sx sy i).2.1) + ((1 : Int32) * (sy i)))), (1, .int (((nef sx sy i).1) + ((1 : Int32) * (sx i)))), (5, .int (1)), (0, .ref (q 0)), (3, .int ((nef sx sy i).2.2))]) hx hb dX0_nearest_102 hl (k := 5) rfl (nI_1 _) (by decide) rfl (fun ls hl => ?_)
      refine lv_goto (tgt := 9) hx hb dX0_nearest_105 (by decide) ?_
      exact ih_9 _ (by omega) (by rw [nef_f (Int32.not_lt.mpr cz2)]; exact lv_sub hl [4, 2, 1, 5, 0] rfl)
    · refine lv_iconst (v := (-1)) hx hb dX0_nearest_66 (by decide) ?_
      refine lv_istore (lv' := [(5, .int (-1)), (0, .ref (q 0)), (1, .int ((nef sx sy i).1)), (2, .int ((nef sx sy i).2.1)), (3, .int ((nef sx sy i).2.2)), (4, .int (nI i))]) hx hb dX0_nearest_67 hl (by decide) rfl (fun ls hl => ?_)
      refine lv_iload_n hx hb dX0_nearest_69 rfl (lv_at hl 4 rfl) ?_
      refine lv_iconst (v := 1) hx hb dX0_nearest_70 (by decide) ?_
      refine lv_iload hx hb dX0_nearest_71 (lv_at hl 5 rfl) ?_
      refine lv_ishl hx hb dX0_nearest_73 ?_
      refine lv_ior hx hb dX0_nearest_74 ?_
      refine lv_istore_n (lv' := [(3, .int (((nef sx sy i).2.2) ||| ((1 : Int32) <<< ((nI i) &&& 31)))), (5, .int (-1)), (0, .ref (q 0)), (1, .int ((nef sx sy i).1)), (2, .int ((nef sx sy i).2.1)), (4, .int (nI i))]) hx hb dX0_nearest_75 rfl hl (by decide) rfl (fun ls hl => ?_)
      refine lv_iload_n hx hb dX0_nearest_76 rfl (lv_at hl 3 rfl) ?_
      refine lv_iload hx hb dX0_nearest_77 (lv_at hl 1 rfl) ?_
      refine lv_aload_n hx hb dX0_nearest_79 rfl (lv_at hl 2 rfl) ?_
      refine gX_stepX hx hb hts hin hown hK hP L47 dX0_nearest_80 ?_
      refine lv_iload hx hb dX0_nearest_83 (lv_at hl 5 rfl) ?_
      refine ldX_stepX (j := i) hx hb hK hP rfl (by omega) dX0_nearest_85 ?_
      refine lv_imul hx hb dX0_nearest_86 ?_
      refine lv_iadd hx hb dX0_nearest_87 ?_
      refine lv_istore_n (lv' := [(1, .int (((nef sx sy i).1) + ((-1 : Int32) * (sx i)))), (3, .int (((nef sx sy i).2.2) ||| ((1 : Int32) <<< ((nI i) &&& 31)))), (5, .int (-1)), (0, .ref (q 0)), (2, .int ((nef sx sy i).2.1)), (4, .int (nI i))]) hx hb dX0_nearest_88 rfl hl (by decide) rfl (fun ls hl => ?_)
      refine lv_iload_n hx hb dX0_nearest_89 rfl (lv_at hl 4 rfl) ?_
      refine lv_iload hx hb dX0_nearest_90 (lv_at hl 2 rfl) ?_
      refine lv_aload_n hx hb dX0_nearest_92 rfl (lv_at hl 3 rfl) ?_
      refine gX_stepY hx hb hts hin hown hK hP L50 dX0_nearest_93 ?_
      refine lv_iload hx hb dX0_nearest_96 (lv_at hl 5 rfl) ?_
      refine ldX_stepY (j := i) hx hb hK hP rfl (by omega) dX0_nearest_98 ?_
      refine lv_imul hx hb dX0_nearest_99 ?_
      refine lv_iadd hx hb dX0_nearest_100 ?_
      refine lv_istore_n (lv' := [(2, .int (((nef sx sy i).2.1) + ((-1 : Int32) * (sy i)))), (1, .int (((nef sx sy i).1) + ((-1 : Int32) * (sx i)))), (3, .int (((nef sx sy i).2.2) ||| ((1 : Int32) <<< ((nI i) &&& 31)))), (5, .int (-1)), (0, .ref (q 0)), (4, .int (nI i))]) hx hb dX0_nearest_101 rfl hl (by decide) rfl (fun ls hl => ?_)
      refine lv_iinc (v := nI (i + 1)) (lv' := [(4, .int (nI (i + 1))), (2, .int (((nef sx sy i).2.1) + ((-1 : Int32) * (sy i)))), (1, .int (((nef sx sy i).1) + ((-1 : Int32) * (sx i)))), (3, .int (((nef sx sy i).2.2) ||| ((1 : Int32) <<< ((nI i) &&& 31)))), (5, .int (-1)), (0, .ref (q 0))]) hx hb dX0_nearest_102 hl (k := 5) rfl (nI_1 _) (by decide) rfl (fun ls hl => ?_)
      refine lv_goto (tgt := 9) hx hb dX0_nearest_105 (by decide) ?_
      exact ih_9 _ (by omega) (by rw [nef_t (Int32.not_le.mp cz2)]; exact lv_sub hl [5, 2, 1, 3, 0] rfl)

theorem hdX0_stray : yX0_stray.cls = RX0 ∧ yX0_stray.cls ≠ "java/lang/invoke/MethodHandle" ∧ yX0_stray.cls ≠ "java/lang/invoke/VarHandle" ∧ (parseMethodDescriptor yX0_stray.desc).map (fun d => d.parameters.length) = some 1 := by decide +kernel
set_option maxHeartbeats 4000000 in
set_option maxRecDepth 100000 in
theorem kX0_stray {l : Launch} {D : va_G} {cy : ClassId} {H : Heap} {q : Nat → Nat} {gT gC : Int32} {ak : Int64} {ta pl cp kd fa fb bm sx sy : Nat → Int32} {N K S : Nat}  (hP : va_P D vwCl (wX cy q (nI N) gT gC (nI K) (nI S) ak ta pl cp kd fa fb bm sx sy) H) (k : Int32) (hSn : S ≤ 10) : Met l yX0_stray wsX0_stray { frames := 3, cells := 0, slots := 0, locals := 68 } (pcK D cy H [.ref (q 0), .int k]) (QcRead (if 0 ≤ k ∧ k < nI (2 ^ S) then stm sx sy k S else -1)) 0 0 (fun _ => False) := by
  refine mV 2 (by decide) rfl (Nat.le_of_ble_eq_true rfl) ?_
  intro p e s m below meth c hx hb hml hr hlk hts hown hnm hK hH ls hl
  have hC := (⟨hx, hb, hml, hown, hts⟩ : CallFix p m c cX0_stray 2 s _ wsX0_stray RX0)
  have hl : lv_has ls 2 [(0, .ref (q 0)), (1, .int (k))] := hl
  refine lv_iload_n hx hb dX0_stray_0 rfl (lv_at hl 1 rfl) ?_
  refine lv_if_lt (tgt := 20) hx hb dX0_stray_1 (by decide) (fun cz1 => ?_) (fun cz1 => ?_)
  · refine lv_iconst (v := (-1)) hx hb dX0_stray_20 (by decide) ?_
    exact rI hx hb hr hlk hH dX0_stray_21 (by rw [if_neg (fun h => absurd h.1 (Int32.not_le.mpr cz1))])
  · refine lv_iload_n hx hb dX0_stray_4 rfl (lv_at hl 1 rfl) ?_
    refine lv_aload_n hx hb dX0_stray_5 rfl (lv_at hl 0 rfl) ?_
    refine cV (As := []) hC hK hP rfl rfl (kX0_signingCount hP  (by omega)) [.int (k)] (cwV 0 hts gX0_stray_X0_signingCount rfl rfl rfl hdX0_signingCount ⟨Nat.le_of_ble_eq_true rfl, Nat.le_of_ble_eq_true rfl⟩) rfl hl.1 rfl (Nat.le_of_ble_eq_true rfl) dX0_stray_6 ⟨Nat.zero_le _, Nat.zero_le _⟩ ?_
    refine lv_icmp_ge (tgt := 20) hx hb dX0_stray_9 (by decide) (fun cz2 => ?_) (fun cz2 => ?_)
    · refine lv_iconst (v := (-1)) hx hb dX0_stray_20 (by decide) ?_
      exact rI hx hb hr hlk hH dX0_stray_21 (by rw [if_neg (fun h => absurd h.2 (Int32.not_lt.mpr cz2))])
    · refine lv_aload_n hx hb dX0_stray_12 rfl (lv_at hl 0 rfl) ?_
      refine lv_iload_n hx hb dX0_stray_13 rfl (lv_at hl 1 rfl) ?_
      refine cV (As := [.int (k)]) hC hK hP rfl rfl (kX0_strayOf hP k (by omega)) [] (cwV 1 hts gX0_stray_X0_strayOf rfl rfl rfl hdX0_strayOf ⟨Nat.le_of_ble_eq_true rfl, Nat.le_of_ble_eq_true rfl⟩) rfl hl.1 rfl (Nat.le_of_ble_eq_true rfl) dX0_stray_14 ⟨Nat.zero_le _, Nat.zero_le _⟩ ?_
      refine lv_goto (tgt := 21) hx hb dX0_stray_17 (by decide) ?_
      exact rI hx hb hr hlk hH dX0_stray_21 (by rw [if_pos ⟨Int32.not_lt.mp cz1, Int32.not_le.mp cz2⟩])

theorem hdX0_straight : yX0_straight.cls = RX0 ∧ yX0_straight.cls ≠ "java/lang/invoke/MethodHandle" ∧ yX0_straight.cls ≠ "java/lang/invoke/VarHandle" ∧ (parseMethodDescriptor yX0_straight.desc).map (fun d => d.parameters.length) = some 1 := by decide +kernel
set_option maxHeartbeats 4000000 in
set_option maxRecDepth 100000 in
theorem kX0_straight {l : Launch} {D : va_G} {cy : ClassId} {H : Heap} {q : Nat → Nat} {gT gC : Int32} {ak : Int64} {ta pl cp kd fa fb bm sx sy : Nat → Int32} {N K S : Nat}  (hP : va_P D vwCl (wX cy q (nI N) gT gC (nI K) (nI S) ak ta pl cp kd fa fb bm sx sy) H) (k : Int32) (hSn : S ≤ 10) : Met l yX0_straight wsX0_straight { frames := 4, cells := 0, slots := 0, locals := 92 } (pcK D cy H [.ref (q 0), .int k]) (QcRead (if k = 0 then stm sx sy (nI (beS sx sy S)) S else if k = 1 then nI (beS sx sy S) else if k = 2 then (nef sx sy S).2.2 else -1)) 0 0 (fun _ => False) := by
  refine mV 2 (by decide) rfl (Nat.le_of_ble_eq_true rfl) ?_
  intro p e s m below meth c hx hb hml hr hlk hts hown hnm hK hH ls hl
  have hC := (⟨hx, hb, hml, hown, hts⟩ : CallFix p m c cX0_straight 2 s _ wsX0_straight RX0)
  have hl : lv_has ls 2 [(0, .ref (q 0)), (1, .int (k))] := hl
  refine lv_iload_n hx hb dX0_straight_0 rfl (lv_at hl 1 rfl) ?_
  by_cases cz1 : k = 0
  · refine lv_tableIn (off := 27) (tgt := 28) hx hb dX0_straight_1 (by rw [cz1]; decide) (by rw [cz1]; decide) (by rw [cz1]; decide) (by decide) ?_
    refine lv_aload_n hx hb dX0_straight_28 rfl (lv_at hl 0 rfl) ?_
    refine lv_aload_n hx hb dX0_straight_29 rfl (lv_at hl 0 rfl) ?_
    refine cV (As := []) hC hK hP rfl rfl (kX0_straightest hP  (by omega)) [.ref (q 0)] (cwV 0 hts gX0_straight_X0_straightest rfl rfl rfl hdX0_straightest ⟨Nat.le_of_ble_eq_true rfl, Nat.le_of_ble_eq_true rfl⟩) rfl hl.1 rfl (Nat.le_of_ble_eq_true rfl) dX0_straight_30 ⟨Nat.zero_le _, Nat.zero_le _⟩ ?_
    refine cV (As := [.int (nI (beS sx sy S))]) hC hK hP rfl rfl (kX0_strayOf hP (nI (beS sx sy S)) (by omega)) [] (cwV 1 hts gX0_straight_X0_strayOf rfl rfl rfl hdX0_strayOf ⟨Nat.le_of_ble_eq_true rfl, Nat.le_of_ble_eq_true rfl⟩) rfl hl.1 rfl (Nat.le_of_ble_eq_true rfl) dX0_straight_33 ⟨Nat.zero_le _, Nat.zero_le _⟩ ?_
    exact rI hx hb hr hlk hH dX0_straight_36 (by clear hl hC hK hP hts hown hnm hx hb hr hlk hml; first | (simp_all [Int32.not_lt, Int32.not_le]; done) | grind)
  by_cases cz2 : k = 1
  · refine lv_tableIn (off := 36) (tgt := 37) hx hb dX0_straight_1 (by rw [cz2]; decide) (by rw [cz2]; decide) (by rw [cz2]; decide) (by decide) ?_
    refine lv_aload_n hx hb dX0_straight_37 rfl (lv_at hl 0 rfl) ?_
    refine cV (As := []) hC hK hP rfl rfl (kX0_straightest hP  (by omega)) [] (cwV 0 hts gX0_straight_X0_straightest rfl rfl rfl hdX0_straightest ⟨Nat.le_of_ble_eq_true rfl, Nat.le_of_ble_eq_true rfl⟩) rfl hl.1 rfl (Nat.le_of_ble_eq_true rfl) dX0_straight_38 ⟨Nat.zero_le _, Nat.zero_le _⟩ ?_
    exact rI hx hb hr hlk hH dX0_straight_41 (by clear hl hC hK hP hts hown hnm hx hb hr hlk hml; first | (simp_all [Int32.not_lt, Int32.not_le]; done) | grind)
  by_cases cz3 : k = 2
  · refine lv_tableIn (off := 41) (tgt := 42) hx hb dX0_straight_1 (by rw [cz3]; decide) (by rw [cz3]; decide) (by rw [cz3]; decide) (by decide) ?_
    refine lv_aload_n hx hb dX0_straight_42 rfl (lv_at hl 0 rfl) ?_
    refine cV (As := []) hC hK hP rfl rfl (kX0_nearest hP  (by omega)) [] (cwV 0 hts gX0_straight_X0_nearest rfl rfl rfl hdX0_nearest ⟨Nat.le_of_ble_eq_true rfl, Nat.le_of_ble_eq_true rfl⟩) rfl hl.1 rfl (Nat.le_of_ble_eq_true rfl) dX0_straight_43 ⟨Nat.zero_le _, Nat.zero_le _⟩ ?_
    exact rI hx hb hr hlk hH dX0_straight_46 (by clear hl hC hK hP hts hown hnm hx hb hr hlk hml; first | (simp_all [Int32.not_lt, Int32.not_le]; done) | grind)
  refine lv_tableOut (tgt := 47) hx hb dX0_straight_1 (by have h0 := lv_neT (a := 0) cz1 (by decide); have h1 := lv_neT (a := 1) cz2 (by decide); have h2 := lv_neT (a := 2) cz3 (by decide); omega) (by decide) ?_
  refine lv_iconst (v := (-1)) hx hb dX0_straight_47 (by decide) ?_
  exact rI hx hb hr hlk hH dX0_straight_48 (by clear hl hC hK hP hts hown hnm hx hb hr hlk hml; first | (simp_all [Int32.not_lt, Int32.not_le]; done) | grind)

theorem hdX0_count : yX0_count.cls = RX0 ∧ yX0_count.cls ≠ "java/lang/invoke/MethodHandle" ∧ yX0_count.cls ≠ "java/lang/invoke/VarHandle" ∧ (parseMethodDescriptor yX0_count.desc).map (fun d => d.parameters.length) = some 1 := by decide +kernel
set_option maxHeartbeats 4000000 in
set_option maxRecDepth 100000 in
theorem kX0_count {l : Launch} {D : va_G} {cy : ClassId} {H : Heap} {q : Nat → Nat} {gT gC : Int32} {ak : Int64} {ta pl cp kd fa fb bm sx sy : Nat → Int32} {N K S : Nat}  (hP : va_P D vwCl (wX cy q (nI N) gT gC (nI K) (nI S) ak ta pl cp kd fa fb bm sx sy) H) (k : Int32)  : Met l yX0_count wsX0_count { frames := 1, cells := 0, slots := 0, locals := 20 } (pcK D cy H [.ref (q 0), .int k]) (QcRead (if k = 0 then nI N else if k = 1 then nI K else if k = 2 then nI S else if k = 3 then bcI gT else -1)) 0 0 (fun _ => False) := by
  refine mV 2 (by decide) rfl (Nat.le_of_ble_eq_true rfl) ?_
  intro p e s m below meth c hx hb hml hr hlk hts hown hnm hK hH ls hl
  have hC := (⟨hx, hb, hml, hown, hts⟩ : CallFix p m c cX0_count 2 s _ wsX0_count RX0)
  have hin : ∀ w ∈ wsX00, w ∈ wsX0_count := by decide +kernel
  have L7 : Cond.fieldLink RX0 7 "TwoColours" "thingCount" "I" ∈ wsX0_count := by decide +kernel
  have L20 : Cond.fieldLink RX0 20 "TwoColours" "heldThings" "I" ∈ wsX0_count := by decide +kernel
  have L29 : Cond.fieldLink RX0 29 "TwoColours" "heapCount" "I" ∈ wsX0_count := by decide +kernel
  have L44 : Cond.fieldLink RX0 44 "TwoColours" "stepCount" "I" ∈ wsX0_count := by decide +kernel
  have hl : lv_has ls 2 [(0, .ref (q 0)), (1, .int (k))] := hl
  refine lv_iload_n hx hb dX0_count_0 rfl (lv_at hl 1 rfl) ?_
  by_cases cz1 : k = 0
  · refine lv_tableIn (off := 31) (tgt := 32) hx hb dX0_count_1 (by rw [cz1]; decide) (by rw [cz1]; decide) (by rw [cz1]; decide) (by decide) ?_
    refine lv_aload_n hx hb dX0_count_32 rfl (lv_at hl 0 rfl) ?_
    refine gX_thingCount hx hb hts hin hown hK hP L7 dX0_count_33 ?_
    exact rI hx hb hr hlk hH dX0_count_36 (by clear hl hC hin hK hP hts hown hnm hx hb hr hlk hml; first | (simp_all [Int32.not_lt, Int32.not_le]; done) | grind)
  by_cases cz2 : k = 1
  · refine lv_tableIn (off := 36) (tgt := 37) hx hb dX0_count_1 (by rw [cz2]; decide) (by rw [cz2]; decide) (by rw [cz2]; decide) (by decide) ?_
    refine lv_aload_n hx hb dX0_count_37 rfl (lv_at hl 0 rfl) ?_
    refine gX_heapCount hx hb hts hin hown hK hP L29 dX0_count_38 ?_
    exact rI hx hb hr hlk hH dX0_count_41 (by clear hl hC hin hK hP hts hown hnm hx hb hr hlk hml; first | (simp_all [Int32.not_lt, Int32.not_le]; done) | grind)
  by_cases cz3 : k = 2
  · refine lv_tableIn (off := 41) (tgt := 42) hx hb dX0_count_1 (by rw [cz3]; decide) (by rw [cz3]; decide) (by rw [cz3]; decide) (by decide) ?_
    refine lv_aload_n hx hb dX0_count_42 rfl (lv_at hl 0 rfl) ?_
    refine gX_stepCount hx hb hts hin hown hK hP L44 dX0_count_43 ?_
    exact rI hx hb hr hlk hH dX0_count_46 (by clear hl hC hin hK hP hts hown hnm hx hb hr hlk hml; first | (simp_all [Int32.not_lt, Int32.not_le]; done) | grind)
  by_cases cz4 : k = 3
  · refine lv_tableIn (off := 46) (tgt := 47) hx hb dX0_count_1 (by rw [cz4]; decide) (by rw [cz4]; decide) (by rw [cz4]; decide) (by decide) ?_
    refine lv_aload_n hx hb dX0_count_47 rfl (lv_at hl 0 rfl) ?_
    refine gX_heldThings hx hb hts hin hown hK hP L20 dX0_count_48 ?_
    refine cS (As := [.int (gT)]) hC (kJ6_bitCount_0f7a4 gT ) [] (va_cwS 1 hts gX0_count_J6_bitCount_0f7a4 rfl rfl rfl (by decide +kernel) ⟨Nat.le_of_ble_eq_true rfl, Nat.le_of_ble_eq_true rfl⟩) rfl hl.1 rfl (Nat.le_of_ble_eq_true rfl) dX0_count_51 ⟨Nat.zero_le _, Nat.zero_le _⟩ ?_
    exact rI hx hb hr hlk hH dX0_count_54 (by clear hl hC hin hK hP hts hown hnm hx hb hr hlk hml; first | (simp_all [Int32.not_lt, Int32.not_le]; done) | grind)
  refine lv_tableOut (tgt := 55) hx hb dX0_count_1 (by have h0 := lv_neT (a := 0) cz1 (by decide); have h1 := lv_neT (a := 1) cz2 (by decide); have h2 := lv_neT (a := 2) cz3 (by decide); have h3 := lv_neT (a := 3) cz4 (by decide); omega) (by decide) ?_
  refine lv_iconst (v := (-1)) hx hb dX0_count_55 (by decide) ?_
  exact rI hx hb hr hlk hH dX0_count_56 (by clear hl hC hin hK hP hts hown hnm hx hb hr hlk hml; first | (simp_all [Int32.not_lt, Int32.not_le]; done) | grind)

theorem hdX0_trace : yX0_trace.cls = RX0 ∧ yX0_trace.cls ≠ "java/lang/invoke/MethodHandle" ∧ yX0_trace.cls ≠ "java/lang/invoke/VarHandle" ∧ (parseMethodDescriptor yX0_trace.desc).map (fun d => d.parameters.length) = some 0 := by decide +kernel
set_option maxHeartbeats 4000000 in
set_option maxRecDepth 100000 in
theorem kX0_trace {l : Launch} {D : va_G} {cy : ClassId} {H : Heap} {q : Nat → Nat} {gT gC : Int32} {ak : Int64} {ta pl cp kd fa fb bm sx sy : Nat → Int32} {N K S : Nat}  (hP : va_P D vwCl (wX cy q (nI N) gT gC (nI K) (nI S) ak ta pl cp kd fa fb bm sx sy) H)   : Met l yX0_trace wsX0_trace { frames := 0, cells := 0, slots := 0, locals := 0 } (pcK D cy H [.ref (q 0)]) (qI (some (.long ak)) (fun H1 => H1 = H) (fun _ => False)) 0 0 (fun _ => False) := by
  refine mV 1 (by decide) rfl (Nat.le_of_ble_eq_true rfl) ?_
  intro p e s m below meth c hx hb hml hr hlk hts hown hnm hK hH ls hl
  have hC := (⟨hx, hb, hml, hown, hts⟩ : CallFix p m c cX0_trace 1 s _ wsX0_trace RX0)
  have hin : ∀ w ∈ wsX00, w ∈ wsX0_trace := by decide +kernel
  have L53 : Cond.fieldLink RX0 53 "TwoColours" "asked" "J" ∈ wsX0_trace := by decide +kernel
  have hl : lv_has ls 1 [(0, .ref (q 0))] := hl
  refine lv_aload_n hx hb dX0_trace_0 rfl (lv_at hl 0 rfl) ?_
  refine gX_asked hx hb hts hin hown hK hP L53 dX0_trace_1 ?_
  exact rL hx hb hr hlk hH dX0_trace_4 rfl

theorem hdX0_second : yX0_second.cls = RX0 ∧ yX0_second.cls ≠ "java/lang/invoke/MethodHandle" ∧ yX0_second.cls ≠ "java/lang/invoke/VarHandle" ∧ (parseMethodDescriptor yX0_second.desc).map (fun d => d.parameters.length) = some 1 := by decide +kernel
set_option maxHeartbeats 4000000 in
set_option maxRecDepth 100000 in
theorem kX0_second {l : Launch} {D : va_G} {cy : ClassId} {H : Heap} {q : Nat → Nat} {gT gC : Int32} {ak : Int64} {ta pl cp kd fa fb bm sx sy : Nat → Int32} {N K S : Nat}  (hP : va_P D vwCl (wX cy q (nI N) gT gC (nI K) (nI S) ak ta pl cp kd fa fb bm sx sy) H) (k : Int32) (hN : N ≤ 12) : Met l yX0_second wsX0_second { frames := 1, cells := 0, slots := 0, locals := 21 } (pcK D cy H [.ref (q 0), .int k]) (QcRead (if 0 ≤ k ∧ k < nI N then ta (ix k) else -1)) 0 0 (fun _ => False) := by
  refine mV 2 (by decide) rfl (Nat.le_of_ble_eq_true rfl) ?_
  intro p e s m below meth c hx hb hml hr hlk hts hown hnm hK hH ls hl
  have hC := (⟨hx, hb, hml, hown, hts⟩ : CallFix p m c cX0_second 2 s _ wsX0_second RX0)
  have hin : ∀ w ∈ wsX00, w ∈ wsX0_second := by decide +kernel
  have L13 : Cond.fieldLink RX0 13 "TwoColours" "thingAt" "[I" ∈ wsX0_second := by decide +kernel
  have hl : lv_has ls 2 [(0, .ref (q 0)), (1, .int (k))] := hl
  refine lv_aload_n hx hb dX0_second_0 rfl (lv_at hl 0 rfl) ?_
  refine lv_iload_n hx hb dX0_second_1 rfl (lv_at hl 1 rfl) ?_
  refine cV (As := [.int (k)]) hC hK hP rfl rfl (kX0_isThing hP k ) [] (cwV 1 hts gX0_second_X0_isThing rfl rfl rfl hdX0_isThing ⟨Nat.le_of_ble_eq_true rfl, Nat.le_of_ble_eq_true rfl⟩) rfl hl.1 rfl (Nat.le_of_ble_eq_true rfl) dX0_second_2 ⟨Nat.zero_le _, Nat.zero_le _⟩ ?_
  refine lv_if_eq (tgt := 17) hx hb dX0_second_5 (by decide) (fun cz1 => ?_) (fun cz1 => ?_)
  · have cz1 := b2_0 cz1
    refine lv_iconst (v := (-1)) hx hb dX0_second_17 (by decide) ?_
    exact rI hx hb hr hlk hH dX0_second_18 (by rw [if_neg cz1])
  · have cz1 := b2_1 cz1
    obtain ⟨j, hj, ej⟩ := inN cz1 (by omega)
    subst ej
    refine lv_aload_n hx hb dX0_second_8 rfl (lv_at hl 0 rfl) ?_
    refine gX_thingAt hx hb hts hin hown hK hP L13 dX0_second_9 ?_
    refine lv_iload_n hx hb dX0_second_12 rfl (lv_at hl 1 rfl) ?_
    refine ldX_thingAt (j := j) hx hb hK hP rfl (by omega) dX0_second_13 ?_
    refine lv_goto (tgt := 18) hx hb dX0_second_14 (by decide) ?_
    exact rI hx hb hr hlk hH dX0_second_18 (by rw [if_pos cz1, ix_nI (by omega)])

theorem hdX0_bits : yX0_bits.cls = RX0 ∧ yX0_bits.cls ≠ "java/lang/invoke/MethodHandle" ∧ yX0_bits.cls ≠ "java/lang/invoke/VarHandle" ∧ (parseMethodDescriptor yX0_bits.desc).map (fun d => d.parameters.length) = some 1 := by decide +kernel
set_option maxHeartbeats 4000000 in
set_option maxRecDepth 100000 in
theorem kX0_bits {l : Launch} {D : va_G} {cy : ClassId} {H : Heap} {q : Nat → Nat} {gT gC : Int32} {ak : Int64} {ta pl cp kd fa fb bm sx sy : Nat → Int32} {N K S : Nat}  (hP : va_P D vwCl (wX cy q (nI N) gT gC (nI K) (nI S) ak ta pl cp kd fa fb bm sx sy) H) (k : Int32) (hKn : K ≤ 10) : Met l yX0_bits wsX0_bits { frames := 1, cells := 0, slots := 0, locals := 21 } (pcK D cy H [.ref (q 0), .int k]) (QcRead (if 0 ≤ k ∧ k < nI K then bm (ix k) else -1)) 0 0 (fun _ => False) := by
  refine mV 2 (by decide) rfl (Nat.le_of_ble_eq_true rfl) ?_
  intro p e s m below meth c hx hb hml hr hlk hts hown hnm hK hH ls hl
  have hC := (⟨hx, hb, hml, hown, hts⟩ : CallFix p m c cX0_bits 2 s _ wsX0_bits RX0)
  have hin : ∀ w ∈ wsX00, w ∈ wsX0_bits := by decide +kernel
  have L41 : Cond.fieldLink RX0 41 "TwoColours" "heapBits" "[I" ∈ wsX0_bits := by decide +kernel
  have hl : lv_has ls 2 [(0, .ref (q 0)), (1, .int (k))] := hl
  refine lv_aload_n hx hb dX0_bits_0 rfl (lv_at hl 0 rfl) ?_
  refine lv_iload_n hx hb dX0_bits_1 rfl (lv_at hl 1 rfl) ?_
  refine cV (As := [.int (k)]) hC hK hP rfl rfl (kX0_isHeap hP k ) [] (cwV 1 hts gX0_bits_X0_isHeap rfl rfl rfl hdX0_isHeap ⟨Nat.le_of_ble_eq_true rfl, Nat.le_of_ble_eq_true rfl⟩) rfl hl.1 rfl (Nat.le_of_ble_eq_true rfl) dX0_bits_2 ⟨Nat.zero_le _, Nat.zero_le _⟩ ?_
  refine lv_if_eq (tgt := 17) hx hb dX0_bits_5 (by decide) (fun cz1 => ?_) (fun cz1 => ?_)
  · have cz1 := b2_0 cz1
    refine lv_iconst (v := (-1)) hx hb dX0_bits_17 (by decide) ?_
    exact rI hx hb hr hlk hH dX0_bits_18 (by rw [if_neg cz1])
  · have cz1 := b2_1 cz1
    obtain ⟨j, hj, ej⟩ := inN cz1 (by omega)
    subst ej
    refine lv_aload_n hx hb dX0_bits_8 rfl (lv_at hl 0 rfl) ?_
    refine gX_heapBits hx hb hts hin hown hK hP L41 dX0_bits_9 ?_
    refine lv_iload_n hx hb dX0_bits_12 rfl (lv_at hl 1 rfl) ?_
    refine ldX_heapBits (j := j) hx hb hK hP rfl (by omega) dX0_bits_13 ?_
    refine lv_goto (tgt := 18) hx hb dX0_bits_14 (by decide) ?_
    exact rI hx hb hr hlk hH dX0_bits_18 (by rw [if_pos cz1, ix_nI (by omega)])

theorem hdX0_partnerInFirstOrder : yX0_partnerInFirstOrder.cls = RX0 ∧ yX0_partnerInFirstOrder.cls ≠ "java/lang/invoke/MethodHandle" ∧ yX0_partnerInFirstOrder.cls ≠ "java/lang/invoke/VarHandle" ∧ (parseMethodDescriptor yX0_partnerInFirstOrder.desc).map (fun d => d.parameters.length) = some 1 := by decide +kernel
set_option maxHeartbeats 4000000 in
set_option maxRecDepth 100000 in
theorem kX0_partnerInFirstOrder {l : Launch} {D : va_G} {cy : ClassId} {H : Heap} {q : Nat → Nat} {gT gC : Int32} {ak : Int64} {ta pl cp kd fa fb bm sx sy : Nat → Int32} {N K S : Nat}  (hP : va_P D vwCl (wX cy q (nI N) gT gC (nI K) (nI S) ak ta pl cp kd fa fb bm sx sy) H) (t : Nat) (hN : N ≤ 12) (ht : t < 12) : Met l yX0_partnerInFirstOrder wsX0_partnerInFirstOrder { frames := 1, cells := 0, slots := 0, locals := 21 } (pcK D cy H [.ref (q 0), .int (nI t)]) (QcRead (if t ^^^ 1 < N then nI (t ^^^ 1) else -9)) 0 0 (fun _ => False) := by
  refine mV 3 (by decide) rfl (Nat.le_of_ble_eq_true rfl) ?_
  intro p e s m below meth c hx hb hml hr hlk hts hown hnm hK hH ls hl
  have hC := (⟨hx, hb, hml, hown, hts⟩ : CallFix p m c cX0_partnerInFirstOrder 3 s _ wsX0_partnerInFirstOrder RX0)
  have hl : lv_has ls 3 [(0, .ref (q 0)), (1, .int (nI t))] := hl
  have hx1 := xor1_lt t ht
  refine lv_iload_n hx hb dX0_partnerInFirstOrder_0 rfl (lv_at hl 1 rfl) ?_
  refine lv_iconst (v := 1) hx hb dX0_partnerInFirstOrder_1 (by decide) ?_
  refine lv_ixor hx hb dX0_partnerInFirstOrder_2 ?_
  refine tpI (y := nI (t ^^^ 1)) (xor1 t (by omega)) ?_
  refine lv_istore_n (lv' := [(2, .int (nI (t ^^^ 1))), (0, .ref (q 0)), (1, .int (nI t))]) hx hb dX0_partnerInFirstOrder_3 rfl hl (by decide) rfl (fun ls hl => ?_)
  refine lv_aload_n hx hb dX0_partnerInFirstOrder_4 rfl (lv_at hl 1 rfl) ?_
  refine lv_iload_n hx hb dX0_partnerInFirstOrder_5 rfl (lv_at hl 0 rfl) ?_
  refine cV (As := [.int (nI (t ^^^ 1))]) hC hK hP rfl rfl (kX0_isThing hP (nI (t ^^^ 1)) ) [] (cwV 1 hts gX0_partnerInFirstOrder_X0_isThing rfl rfl rfl hdX0_isThing ⟨Nat.le_of_ble_eq_true rfl, Nat.le_of_ble_eq_true rfl⟩) rfl hl.1 rfl (Nat.le_of_ble_eq_true rfl) dX0_partnerInFirstOrder_6 ⟨Nat.zero_le _, Nat.zero_le _⟩ ?_
  refine lv_if_eq (tgt := 16) hx hb dX0_partnerInFirstOrder_9 (by decide) (fun cz1 => ?_) (fun cz1 => ?_)
  · have cz1 := b2_0 cz1
    refine lv_bipush (v := (-9)) hx hb dX0_partnerInFirstOrder_16 (by decide) ?_
    exact rI hx hb hr hlk hH dX0_partnerInFirstOrder_18 (by rw [if_neg (fun h => cz1 (nIin h (by omega)))])
  · have cz1 := b2_1 cz1
    refine lv_iload_n hx hb dX0_partnerInFirstOrder_12 rfl (lv_at hl 0 rfl) ?_
    refine lv_goto (tgt := 18) hx hb dX0_partnerInFirstOrder_13 (by decide) ?_
    exact rI hx hb hr hlk hH dX0_partnerInFirstOrder_18 (by rw [if_pos ((nI_ltI (by omega) (by omega)).mp cz1.2)])

theorem hdX0_partnerInSecondOrder : yX0_partnerInSecondOrder.cls = RX0 ∧ yX0_partnerInSecondOrder.cls ≠ "java/lang/invoke/MethodHandle" ∧ yX0_partnerInSecondOrder.cls ≠ "java/lang/invoke/VarHandle" ∧ (parseMethodDescriptor yX0_partnerInSecondOrder.desc).map (fun d => d.parameters.length) = some 1 := by decide +kernel
set_option maxHeartbeats 4000000 in
set_option maxRecDepth 100000 in
theorem kX0_partnerInSecondOrder {l : Launch} {D : va_G} {cy : ClassId} {H : Heap} {q : Nat → Nat} {gT gC : Int32} {ak : Int64} {ta pl cp kd fa fb bm sx sy : Nat → Int32} {N K S : Nat}  (hP : va_P D vwCl (wX cy q (nI N) gT gC (nI K) (nI S) ak ta pl cp kd fa fb bm sx sy) H) (t : Nat) (hN : N ≤ 12) (ht : t < 12) (u : Nat) (hu : u < 12) (hp : pl t = nI u) : Met l yX0_partnerInSecondOrder wsX0_partnerInSecondOrder { frames := 1, cells := 0, slots := 0, locals := 21 } (pcK D cy H [.ref (q 0), .int (nI t)]) (QcRead (if u ^^^ 1 < N then ta (u ^^^ 1) else -9)) 0 0 (fun _ => False) := by
  refine mV 3 (by decide) rfl (Nat.le_of_ble_eq_true rfl) ?_
  intro p e s m below meth c hx hb hml hr hlk hts hown hnm hK hH ls hl
  have hC := (⟨hx, hb, hml, hown, hts⟩ : CallFix p m c cX0_partnerInSecondOrder 3 s _ wsX0_partnerInSecondOrder RX0)
  have hin : ∀ w ∈ wsX00, w ∈ wsX0_partnerInSecondOrder := by decide +kernel
  have L13 : Cond.fieldLink RX0 13 "TwoColours" "thingAt" "[I" ∈ wsX0_partnerInSecondOrder := by decide +kernel
  have L17 : Cond.fieldLink RX0 17 "TwoColours" "placeOf" "[I" ∈ wsX0_partnerInSecondOrder := by decide +kernel
  have hl : lv_has ls 3 [(0, .ref (q 0)), (1, .int (nI t))] := hl
  have hx1 := xor1_lt u hu
  refine lv_aload_n hx hb dX0_partnerInSecondOrder_0 rfl (lv_at hl 0 rfl) ?_
  refine gX_placeOf hx hb hts hin hown hK hP L17 dX0_partnerInSecondOrder_1 ?_
  refine lv_iload_n hx hb dX0_partnerInSecondOrder_4 rfl (lv_at hl 1 rfl) ?_
  refine ldX_placeOf (j := t) hx hb hK hP rfl (by omega) dX0_partnerInSecondOrder_5 ?_
  refine lv_iconst (v := 1) hx hb dX0_partnerInSecondOrder_6 (by decide) ?_
  refine lv_ixor hx hb dX0_partnerInSecondOrder_7 ?_
  refine tpI (y := nI (u ^^^ 1)) (by rw [hp]; exact xor1 u (by omega)) ?_
  refine lv_istore_n (lv' := [(2, .int (nI (u ^^^ 1))), (0, .ref (q 0)), (1, .int (nI t))]) hx hb dX0_partnerInSecondOrder_8 rfl hl (by decide) rfl (fun ls hl => ?_)
  refine lv_aload_n hx hb dX0_partnerInSecondOrder_9 rfl (lv_at hl 1 rfl) ?_
  refine lv_iload_n hx hb dX0_partnerInSecondOrder_10 rfl (lv_at hl 0 rfl) ?_
  refine cV (As := [.int (nI (u ^^^ 1))]) hC hK hP rfl rfl (kX0_isThing hP (nI (u ^^^ 1)) ) [] (cwV 1 hts gX0_partnerInSecondOrder_X0_isThing rfl rfl rfl hdX0_isThing ⟨Nat.le_of_ble_eq_true rfl, Nat.le_of_ble_eq_true rfl⟩) rfl hl.1 rfl (Nat.le_of_ble_eq_true rfl) dX0_partnerInSecondOrder_11 ⟨Nat.zero_le _, Nat.zero_le _⟩ ?_
  refine lv_if_eq (tgt := 26) hx hb dX0_partnerInSecondOrder_14 (by decide) (fun cz1 => ?_) (fun cz1 => ?_)
  · have cz1 := b2_0 cz1
    refine lv_bipush (v := (-9)) hx hb dX0_partnerInSecondOrder_26 (by decide) ?_
    exact rI hx hb hr hlk hH dX0_partnerInSecondOrder_28 (by rw [if_neg (fun h => cz1 (nIin h (by omega)))])
  · have cz1 := b2_1 cz1
    refine lv_aload_n hx hb dX0_partnerInSecondOrder_17 rfl (lv_at hl 1 rfl) ?_
    refine gX_thingAt hx hb hts hin hown hK hP L13 dX0_partnerInSecondOrder_18 ?_
    refine lv_iload_n hx hb dX0_partnerInSecondOrder_21 rfl (lv_at hl 0 rfl) ?_
    refine ldX_thingAt (j := (u ^^^ 1)) hx hb hK hP rfl (by omega) dX0_partnerInSecondOrder_22 ?_
    refine lv_goto (tgt := 28) hx hb dX0_partnerInSecondOrder_23 (by decide) ?_
    exact rI hx hb hr hlk hH dX0_partnerInSecondOrder_28 (by rw [if_pos ((nI_ltI (by omega) (by omega)).mp cz1.2)])
end
section
/-! what the methods that write leave -/
def idF (f : Nat → Int32) : Nat → Nat → Int32
  | 0 => f
  | k + 1 => upd (idF f k) k (nI k)
def rbF (g : Nat → Int32) (f : Nat → Int32) : Nat → Nat → Int32
  | 0 => f
  | k + 1 => upd (rbF g f k) k (g k)
def swT (ta : Nat → Int32) (i j : Nat) : Nat → Int32 := upd (upd ta i (ta j)) j (ta i)
def swP (pl ta : Nat → Int32) (i j : Nat) : Nat → Int32 := upd (upd pl (ix (ta j)) (nI i)) (ix (ta i)) (nI j)
def hbX (pl kd fa fb : Nat → Int32) (N h : Nat) : Int32 := setF (fun t => belX pl t (kd h) (fa h) (fb h)) N
theorem in112 {k : Int32} (h1 : ¬ k < 1) (h2 : k ≤ 12) : ∃ j : Nat, 1 ≤ j ∧ j ≤ 12 ∧ k = nI j := by
  have h0 : ¬ k < 0 := fun h => h1 (Int32.lt_trans h (by decide))
  obtain ⟨j, hj, e⟩ := nI_of2 (x := k) (M := 12) (n := 12) (by decide) h0 h2
  refine ⟨j, ?_, hj, e⟩
  rcases Nat.eq_zero_or_pos j with hz | hz
  · exact absurd (by rw [e, hz]; decide) h1
  · exact hz
theorem nI_sub1 {K : Nat} (h : ¬ K = 0) : nI K - 1 = nI (K - 1) := by
  obtain ⟨n, rfl⟩ : ∃ n, K = n + 1 := ⟨K - 1, by omega⟩
  exact nI_pred n
end
section
theorem hdX0_putAt : yX0_putAt.cls = RX0 ∧ yX0_putAt.cls ≠ "java/lang/invoke/MethodHandle" ∧ yX0_putAt.cls ≠ "java/lang/invoke/VarHandle" ∧ (parseMethodDescriptor yX0_putAt.desc).map (fun d => d.parameters.length) = some 2 := by decide +kernel
set_option maxHeartbeats 4000000 in
set_option maxRecDepth 100000 in
theorem kX0_putAt {l : Launch} {D : va_G} {cy : ClassId} {H : Heap} {q : Nat → Nat} {gT gC : Int32} {ak : Int64} {ta pl cp kd fa fb bm sx sy : Nat → Int32} {N K S : Nat}  (hP : va_P D vwCl (wX cy q (nI N) gT gC (nI K) (nI S) ak ta pl cp kd fa fb bm sx sy) H) (hD : va_D (aL q) (wX cy q (nI N) gT gC (nI K) (nI S) ak ta pl cp kd fa fb bm sx sy)) (i : Nat) (t : Nat) (hi : i < 12) (ht : t < 12) : Met l yX0_putAt wsX0_putAt { frames := 0, cells := 0, slots := 0, locals := 0 } (pcK D cy H [.ref (q 0), .int (nI i), .int (nI t)]) (qI none (va_P D vwCl (wX cy q (nI N) gT gC (nI K) (nI S) ak (upd ta i (nI t)) (upd pl t (nI i)) cp kd fa fb bm sx sy)) (aL q)) 0 0 (aL q) := by
  refine mV 3 (by decide) rfl (Nat.le_of_ble_eq_true rfl) ?_
  intro p e s m below meth c hx hb hml hr hlk hts hown hnm hK hH ls hl
  have hC := (⟨hx, hb, hml, hown, hts⟩ : CallFix p m c cX0_putAt 3 s _ wsX0_putAt RX0)
  have hin : ∀ w ∈ wsX00, w ∈ wsX0_putAt := by decide +kernel
  have L13 : Cond.fieldLink RX0 13 "TwoColours" "thingAt" "[I" ∈ wsX0_putAt := by decide +kernel
  have L17 : Cond.fieldLink RX0 17 "TwoColours" "placeOf" "[I" ∈ wsX0_putAt := by decide +kernel
  have hl : lv_has ls 3 [(0, .ref (q 0)), (1, .int (nI i)), (2, .int (nI t))] := hl
  have hS : va_S (aL q) s.heap H [] := by rw [hH]; exact va_S.rf
  refine lv_aload_n hx hb dX0_putAt_0 rfl (lv_at hl 0 rfl) ?_
  refine gX_thingAt hx hb hts hin hown hK hP L13 dX0_putAt_1 ?_
  refine lv_iload_n hx hb dX0_putAt_4 rfl (lv_at hl 1 rfl) ?_
  refine lv_iload_n hx hb dX0_putAt_5 rfl (lv_at hl 2 rfl) ?_
  refine stX_thingAt (j := i) hx hb hK hP hD hS rfl (by omega) dX0_putAt_6 (fun H locs hP hD hS => ?_)
  refine lv_aload_n hx hb dX0_putAt_7 rfl (lv_at hl 0 rfl) ?_
  refine gX_placeOf hx hb hts hin hown hK hP L17 dX0_putAt_8 ?_
  refine lv_iload_n hx hb dX0_putAt_11 rfl (lv_at hl 2 rfl) ?_
  refine lv_iload_n hx hb dX0_putAt_12 rfl (lv_at hl 1 rfl) ?_
  refine stX_placeOf (j := t) hx hb hK hP hD hS rfl (by omega) dX0_putAt_13 (fun H locs hP hD hS => ?_)
  exact rVw hx hb hr hlk hS hP dX0_putAt_14

theorem hdX0_orderByNumbers : yX0_orderByNumbers.cls = RX0 ∧ yX0_orderByNumbers.cls ≠ "java/lang/invoke/MethodHandle" ∧ yX0_orderByNumbers.cls ≠ "java/lang/invoke/VarHandle" ∧ (parseMethodDescriptor yX0_orderByNumbers.desc).map (fun d => d.parameters.length) = some 0 := by decide +kernel
set_option maxHeartbeats 4000000 in
set_option maxRecDepth 100000 in
theorem kX0_orderByNumbers {l : Launch} {D : va_G} {cy : ClassId} {H : Heap} {q : Nat → Nat} {gT gC : Int32} {ak : Int64} {ta pl cp kd fa fb bm sx sy : Nat → Int32} {N K S : Nat}  (hP : va_P D vwCl (wX cy q (nI N) gT gC (nI K) (nI S) ak ta pl cp kd fa fb bm sx sy) H) (hD : va_D (aL q) (wX cy q (nI N) gT gC (nI K) (nI S) ak ta pl cp kd fa fb bm sx sy))   : Met l yX0_orderByNumbers wsX0_orderByNumbers { frames := 1, cells := 0, slots := 0, locals := 22 } (pcK D cy H [.ref (q 0)]) (qI none (va_P D vwCl (wX cy q (nI N) gT gC (nI K) (nI S) ak (idF ta 12) (idF pl 12) cp kd fa fb bm sx sy)) (aL q)) 0 0 (aL q) := by
  refine mV 2 (by decide) rfl (Nat.le_of_ble_eq_true rfl) ?_
  intro p e s m below meth c hx hb hml hr hlk hts hown hnm hK hH ls hl
  have hC := (⟨hx, hb, hml, hown, hts⟩ : CallFix p m c cX0_orderByNumbers 2 s _ wsX0_orderByNumbers RX0)
  have hl : lv_has ls 2 [(0, .ref (q 0))] := hl
  have hS : va_S (aL q) s.heap H [] := by rw [hH]; exact va_S.rf
  refine lv_iconst (v := 0) hx hb dX0_orderByNumbers_0 (by decide) ?_
  refine lv_istore_n (lv' := [(1, .int (0)), (0, .ref (q 0))]) hx hb dX0_orderByNumbers_1 rfl hl (by decide) rfl (fun ls hl => ?_)
  refine lpW (σ := Nat) 2 (fun i ls H locs => (i ≤ 12) ∧ lv_has ls 2 [(0, .ref (q 0)), (1, .int (nI i))] ∧ va_P D vwCl (wX cy q (nI N) gT gC (nI K) (nI S) ak (idF ta i) (idF pl i) cp kd fa fb bm sx sy) H ∧ va_D (aL q) (wX cy q (nI N) gT gC (nI K) (nI S) ak (idF ta i) (idF pl i) cp kd fa fb bm sx sy) ∧ va_S (aL q) s.heap H locs) (fun i => 12 - i) ?_ (0) ls ⟨Nat.zero_le _, lv_sub hl [1, 0] rfl, hP, hD, hS⟩
  intro i ls H locs hI ih_2
  obtain ⟨hi, hl, hP, hD, hS⟩ := hI
  refine lv_iload_n hx hb dX0_orderByNumbers_2 rfl (lv_at hl 1 rfl) ?_
  refine lv_bipush (v := 12) hx hb dX0_orderByNumbers_3 (by decide) ?_
  refine lv_icmp_ge (tgt := 20) hx hb dX0_orderByNumbers_5 (by decide) (fun cz1 => ?_) (fun cz1 => ?_)
  · have cz1 : 12 ≤ i := (nI_leI (a := 12) (b := i) (by omega) (by omega)).mp cz1
    have ei : 12 = i := by omega
    subst ei
    exact rVw hx hb hr hlk hS hP dX0_orderByNumbers_20
  · have cz1 : ¬ 12 ≤ i := fun h => cz1 ((nI_leI (a := 12) (b := i) (by omega) (by omega)).mpr h)
    refine lv_aload_n hx hb dX0_orderByNumbers_8 rfl (lv_at hl 0 rfl) ?_
    refine lv_iload_n hx hb dX0_orderByNumbers_9 rfl (lv_at hl 1 rfl) ?_
    refine lv_iload_n hx hb dX0_orderByNumbers_10 rfl (lv_at hl 1 rfl) ?_
    refine cVw (As := [.int (nI i), .int (nI i)]) hC hK hP rfl rfl (kX0_putAt hP hD i i (by omega) (by omega)) [] (cwV 2 hts gX0_orderByNumbers_X0_putAt rfl rfl rfl hdX0_putAt ⟨Nat.le_of_ble_eq_true rfl, Nat.le_of_ble_eq_true rfl⟩) rfl hl.1 rfl (Nat.le_of_ble_eq_true rfl) dX0_orderByNumbers_11 ⟨Nat.zero_le _, Nat.zero_le _⟩ hS (fun _ h => h) (fun H locs hP hz hkp hS => ?_)
    have hD := vD_same (w2 := wX cy q (nI N) gT gC (nI K) (nI S) ak (upd (idF ta i) i (nI i)) (upd (idF pl i) i (nI i)) cp kd fa fb bm sx sy) (by rfl) hD
    refine lv_iinc (v := nI (i + 1)) (lv' := [(1, .int (nI (i + 1))), (0, .ref (q 0))]) hx hb dX0_orderByNumbers_14 hl (k := 1) rfl (nI_1 _) (by decide) rfl (fun ls hl => ?_)
    refine lv_goto (tgt := 2) hx hb dX0_orderByNumbers_17 (by decide) ?_
    exact ih_2 (i + 1) _ _ _ (by omega) ⟨by omega, lv_sub hl [1, 0] rfl, hP, vD_same (by rfl) hD, hS⟩

theorem hdX0_things : yX0_things.cls = RX0 ∧ yX0_things.cls ≠ "java/lang/invoke/MethodHandle" ∧ yX0_things.cls ≠ "java/lang/invoke/VarHandle" ∧ (parseMethodDescriptor yX0_things.desc).map (fun d => d.parameters.length) = some 1 := by decide +kernel
set_option maxHeartbeats 4000000 in
set_option maxRecDepth 100000 in
theorem kX0_things {l : Launch} {D : va_G} {cy : ClassId} {H : Heap} {q : Nat → Nat} {gT gC : Int32} {ak : Int64} {ta pl cp kd fa fb bm sx sy : Nat → Int32} {N K S : Nat}  (hP : va_P D vwCl (wX cy q (nI N) gT gC (nI K) (nI S) ak ta pl cp kd fa fb bm sx sy) H) (hD : va_D (aL q) (wX cy q (nI N) gT gC (nI K) (nI S) ak ta pl cp kd fa fb bm sx sy)) (k : Int32)  : Met l yX0_things wsX0_things { frames := 2, cells := 0, slots := 0, locals := 43 } (pcK D cy H [.ref (q 0), .int k]) (qI (some (.int (if 1 ≤ k ∧ k ≤ 12 then nI N else -1))) (va_P D vwCl (if 1 ≤ k ∧ k ≤ 12 then wX cy q k 0 0 (nI 0) (nI S) ak (idF ta 12) (idF pl 12) cp kd fa fb bm sx sy else wX cy q (nI N) gT gC (nI K) (nI S) ak ta pl cp kd fa fb bm sx sy)) (aL q)) 0 0 (aL q) := by
  refine mV 3 (by decide) rfl (Nat.le_of_ble_eq_true rfl) ?_
  intro p e s m below meth c hx hb hml hr hlk hts hown hnm hK hH ls hl
  have hC := (⟨hx, hb, hml, hown, hts⟩ : CallFix p m c cX0_things 3 s _ wsX0_things RX0)
  have hin : ∀ w ∈ wsX00, w ∈ wsX0_things := by decide +kernel
  have L7 : Cond.fieldLink RX0 7 "TwoColours" "thingCount" "I" ∈ wsX0_things := by decide +kernel
  have L20 : Cond.fieldLink RX0 20 "TwoColours" "heldThings" "I" ∈ wsX0_things := by decide +kernel
  have L23 : Cond.fieldLink RX0 23 "TwoColours" "heldColours" "I" ∈ wsX0_things := by decide +kernel
  have L29 : Cond.fieldLink RX0 29 "TwoColours" "heapCount" "I" ∈ wsX0_things := by decide +kernel
  have hl : lv_has ls 3 [(0, .ref (q 0)), (1, .int (k))] := hl
  have hS : va_S (aL q) s.heap H [] := by rw [hH]; exact va_S.rf
  refine lv_iload_n hx hb dX0_things_0 rfl (lv_at hl 1 rfl) ?_
  refine lv_iconst (v := 1) hx hb dX0_things_1 (by decide) ?_
  refine lv_icmp_lt (tgt := 11) hx hb dX0_things_2 (by decide) (fun cz1 => ?_) (fun cz1 => ?_)
  · refine lv_iconst (v := (-1)) hx hb dX0_things_11 (by decide) ?_
    exact rIw hx hb hr hlk hS (by rw [if_neg (fun h => absurd h.1 (Int32.not_le.mpr cz1))]; exact hP) dX0_things_12 (by rw [if_neg (fun h => absurd h.1 (Int32.not_le.mpr cz1))])
  · refine lv_iload_n hx hb dX0_things_5 rfl (lv_at hl 1 rfl) ?_
    refine lv_bipush (v := 12) hx hb dX0_things_6 (by decide) ?_
    refine lv_icmp_le (tgt := 13) hx hb dX0_things_8 (by decide) (fun cz2 => ?_) (fun cz2 => ?_)
    · obtain ⟨j, hj1, hj2, ej⟩ := in112 cz1 cz2
      subst ej
      refine lv_aload_n hx hb dX0_things_13 rfl (lv_at hl 0 rfl) ?_
      refine gX_thingCount hx hb hts hin hown hK hP L7 dX0_things_14 ?_
      refine lv_istore_n (lv' := [(2, .int (nI N)), (0, .ref (q 0)), (1, .int (nI j))]) hx hb dX0_things_17 rfl hl (by decide) rfl (fun ls hl => ?_)
      refine lv_aload_n hx hb dX0_things_18 rfl (lv_at hl 1 rfl) ?_
      refine lv_iload_n hx hb dX0_things_19 rfl (lv_at hl 2 rfl) ?_
      refine pX_thingCount hx hb hts hin hown hK hP hD hS L7 dX0_things_20 (fun H locs hP hD hS => ?_)
      refine lv_aload_n hx hb dX0_things_23 rfl (lv_at hl 1 rfl) ?_
      refine lv_iconst (v := 0) hx hb dX0_things_24 (by decide) ?_
      refine pX_heldThings hx hb hts hin hown hK hP hD hS L20 dX0_things_25 (fun H locs hP hD hS => ?_)
      refine lv_aload_n hx hb dX0_things_28 rfl (lv_at hl 1 rfl) ?_
      refine lv_iconst (v := 0) hx hb dX0_things_29 (by decide) ?_
      refine pX_heldColours hx hb hts hin hown hK hP hD hS L23 dX0_things_30 (fun H locs hP hD hS => ?_)
      refine lv_aload_n hx hb dX0_things_33 rfl (lv_at hl 1 rfl) ?_
      refine lv_iconst (v := 0) hx hb dX0_things_34 (by decide) ?_
      refine tpI (y := nI 0) nI_0.symm ?_
      refine pX_heapCount hx hb hts hin hown hK hP hD hS L29 dX0_things_35 (fun H locs hP hD hS => ?_)
      refine lv_aload_n hx hb dX0_things_38 rfl (lv_at hl 1 rfl) ?_
      refine cVw (As := []) hC hK hP rfl rfl (kX0_orderByNumbers hP hD  ) [] (cwV 0 hts gX0_things_X0_orderByNumbers rfl rfl rfl hdX0_orderByNumbers ⟨Nat.le_of_ble_eq_true rfl, Nat.le_of_ble_eq_true rfl⟩) rfl hl.1 rfl (Nat.le_of_ble_eq_true rfl) dX0_things_39 ⟨Nat.zero_le _, Nat.zero_le _⟩ hS (fun _ h => h) (fun H locs hP hz hkp hS => ?_)
      have hD := vD_same (w2 := wX cy q (nI j) 0 0 (nI 0) (nI S) ak (idF ta 12) (idF pl 12) cp kd fa fb bm sx sy) (by rfl) hD
      refine lv_iload_n hx hb dX0_things_42 rfl (lv_at hl 0 rfl) ?_
      exact rIw hx hb hr hlk hS (by rw [if_pos ⟨Int32.not_lt.mp cz1, cz2⟩]; exact hP) dX0_things_43 (by rw [if_pos ⟨Int32.not_lt.mp cz1, cz2⟩])
    · refine lv_iconst (v := (-1)) hx hb dX0_things_11 (by decide) ?_
      exact rIw hx hb hr hlk hS (by rw [if_neg (fun h => cz2 h.2)]; exact hP) dX0_things_12 (by rw [if_neg (fun h => cz2 h.2)])

theorem hdX0_heap : yX0_heap.cls = RX0 ∧ yX0_heap.cls ≠ "java/lang/invoke/MethodHandle" ∧ yX0_heap.cls ≠ "java/lang/invoke/VarHandle" ∧ (parseMethodDescriptor yX0_heap.desc).map (fun d => d.parameters.length) = some 3 := by decide +kernel
set_option maxHeartbeats 4000000 in
set_option maxRecDepth 100000 in
theorem kX0_heap {l : Launch} {D : va_G} {cy : ClassId} {H : Heap} {q : Nat → Nat} {gT gC : Int32} {ak : Int64} {ta pl cp kd fa fb bm sx sy : Nat → Int32} {N K S : Nat}  (hP : va_P D vwCl (wX cy q (nI N) gT gC (nI K) (nI S) ak ta pl cp kd fa fb bm sx sy) H) (hD : va_D (aL q) (wX cy q (nI N) gT gC (nI K) (nI S) ak ta pl cp kd fa fb bm sx sy)) (k : Int32) (a : Int32) (b : Int32) (hN : N ≤ 12) (hKn : K ≤ 10) : Met l yX0_heap wsX0_heap { frames := 3, cells := 0, slots := 0, locals := 71 } (pcK D cy H [.ref (q 0), .int k, .int a, .int b]) (qI (some (.int (if canX N k a b = true ∧ K < 10 then nI K else if canX N k a b = true then -3 else -1))) (va_P D vwCl (if canX N k a b = true ∧ K < 10 then wX cy q (nI N) gT gC (nI (K + 1)) (nI S) ak ta pl cp (upd kd K k) (upd fa K a) (upd fb K b) (upd bm K (setF (fun t => belX pl t k a b) N)) sx sy else if canX N k a b = true then wX cy q (nI N) gT gC (nI K) (nI S) ak ta pl cp kd fa fb bm sx sy else wX cy q (nI N) gT gC (nI K) (nI S) ak ta pl cp kd fa fb bm sx sy)) (aL q)) 0 0 (aL q) := by
  refine mV 5 (by decide) rfl (Nat.le_of_ble_eq_true rfl) ?_
  intro p e s m below meth c hx hb hml hr hlk hts hown hnm hK hH ls hl
  have hC := (⟨hx, hb, hml, hown, hts⟩ : CallFix p m c cX0_heap 5 s _ wsX0_heap RX0)
  have hin : ∀ w ∈ wsX00, w ∈ wsX0_heap := by decide +kernel
  have L29 : Cond.fieldLink RX0 29 "TwoColours" "heapCount" "I" ∈ wsX0_heap := by decide +kernel
  have L32 : Cond.fieldLink RX0 32 "TwoColours" "heapKind" "[I" ∈ wsX0_heap := by decide +kernel
  have L35 : Cond.fieldLink RX0 35 "TwoColours" "heapA" "[I" ∈ wsX0_heap := by decide +kernel
  have L38 : Cond.fieldLink RX0 38 "TwoColours" "heapB" "[I" ∈ wsX0_heap := by decide +kernel
  have L41 : Cond.fieldLink RX0 41 "TwoColours" "heapBits" "[I" ∈ wsX0_heap := by decide +kernel
  have hl : lv_has ls 5 [(0, .ref (q 0)), (1, .int (k)), (2, .int (a)), (3, .int (b))] := hl
  have hS : va_S (aL q) s.heap H [] := by rw [hH]; exact va_S.rf
  refine lv_aload_n hx hb dX0_heap_0 rfl (lv_at hl 0 rfl) ?_
  refine lv_iload_n hx hb dX0_heap_1 rfl (lv_at hl 1 rfl) ?_
  refine lv_iload_n hx hb dX0_heap_2 rfl (lv_at hl 2 rfl) ?_
  refine lv_iload_n hx hb dX0_heap_3 rfl (lv_at hl 3 rfl) ?_
  refine cV (As := [.int (k), .int (a), .int (b)]) hC hK hP rfl rfl (kX0_canBeHeap hP k a b (by omega)) [] (cwV 3 hts gX0_heap_X0_canBeHeap rfl rfl rfl hdX0_canBeHeap ⟨Nat.le_of_ble_eq_true rfl, Nat.le_of_ble_eq_true rfl⟩) rfl hl.1 rfl (Nat.le_of_ble_eq_true rfl) dX0_heap_4 ⟨Nat.zero_le _, Nat.zero_le _⟩ ?_
  refine lv_if_ne (tgt := 12) hx hb dX0_heap_7 (by decide) (fun cz1 => ?_) (fun cz1 => ?_)
  · have cz1 := b2_1 cz1
    refine lv_aload_n hx hb dX0_heap_12 rfl (lv_at hl 0 rfl) ?_
    refine gX_heapCount hx hb hts hin hown hK hP L29 dX0_heap_13 ?_
    refine lv_bipush (v := 10) hx hb dX0_heap_16 (by decide) ?_
    refine lv_icmp_lt (tgt := 24) hx hb dX0_heap_18 (by decide) (fun cz2 => ?_) (fun cz2 => ?_)
    · have cz2 : K < 10 := (nI_ltI (a := K) (b := 10) (by omega) (by omega)).mp cz2
      refine lv_aload_n hx hb dX0_heap_24 rfl (lv_at hl 0 rfl) ?_
      refine gX_heapCount hx hb hts hin hown hK hP L29 dX0_heap_25 ?_
      refine lv_istore (lv' := [(4, .int (nI K)), (0, .ref (q 0)), (1, .int (k)), (2, .int (a)), (3, .int (b))]) hx hb dX0_heap_28 hl (by decide) rfl (fun ls hl => ?_)
      refine lv_aload_n hx hb dX0_heap_30 rfl (lv_at hl 1 rfl) ?_
      refine gX_heapKind hx hb hts hin hown hK hP L32 dX0_heap_31 ?_
      refine lv_iload hx hb dX0_heap_34 (lv_at hl 0 rfl) ?_
      refine lv_iload_n hx hb dX0_heap_36 rfl (lv_at hl 2 rfl) ?_
      refine stX_heapKind (j := K) hx hb hK hP hD hS rfl (by omega) dX0_heap_37 (fun H locs hP hD hS => ?_)
      refine lv_aload_n hx hb dX0_heap_38 rfl (lv_at hl 1 rfl) ?_
      refine gX_heapA hx hb hts hin hown hK hP L35 dX0_heap_39 ?_
      refine lv_iload hx hb dX0_heap_42 (lv_at hl 0 rfl) ?_
      refine lv_iload_n hx hb dX0_heap_44 rfl (lv_at hl 3 rfl) ?_
      refine stX_heapA (j := K) hx hb hK hP hD hS rfl (by omega) dX0_heap_45 (fun H locs hP hD hS => ?_)
      refine lv_aload_n hx hb dX0_heap_46 rfl (lv_at hl 1 rfl) ?_
      refine gX_heapB hx hb hts hin hown hK hP L38 dX0_heap_47 ?_
      refine lv_iload hx hb dX0_heap_50 (lv_at hl 0 rfl) ?_
      refine lv_iload_n hx hb dX0_heap_52 rfl (lv_at hl 4 rfl) ?_
      refine stX_heapB (j := K) hx hb hK hP hD hS rfl (by omega) dX0_heap_53 (fun H locs hP hD hS => ?_)
      refine lv_aload_n hx hb dX0_heap_54 rfl (lv_at hl 1 rfl) ?_
      refine gX_heapBits hx hb hts hin hown hK hP L41 dX0_heap_55 ?_
      refine lv_iload hx hb dX0_heap_58 (lv_at hl 0 rfl) ?_
      refine lv_aload_n hx hb dX0_heap_60 rfl (lv_at hl 1 rfl) ?_
      refine lv_iload_n hx hb dX0_heap_61 rfl (lv_at hl 2 rfl) ?_
      refine lv_iload_n hx hb dX0_heap_62 rfl (lv_at hl 3 rfl) ?_
      refine lv_iload_n hx hb dX0_heap_63 rfl (lv_at hl 4 rfl) ?_
      refine cV (As := [.int (k), .int (a), .int (b)]) hC hK hP rfl rfl (kX0_thingsOf hP k a b (by omega)) [.int (nI K), .ref (q 7)] (cwV 3 hts gX0_heap_X0_thingsOf rfl rfl rfl hdX0_thingsOf ⟨Nat.le_of_ble_eq_true rfl, Nat.le_of_ble_eq_true rfl⟩) rfl hl.1 rfl (Nat.le_of_ble_eq_true rfl) dX0_heap_64 ⟨Nat.zero_le _, Nat.zero_le _⟩ ?_
      refine stX_heapBits (j := K) hx hb hK hP hD hS rfl (by omega) dX0_heap_67 (fun H locs hP hD hS => ?_)
      refine lv_aload_n hx hb dX0_heap_68 rfl (lv_at hl 1 rfl) ?_
      refine lv_dup hx hb dX0_heap_69 rfl ?_
      refine gX_heapCount hx hb hts hin hown hK hP L29 dX0_heap_70 ?_
      refine lv_iconst (v := 1) hx hb dX0_heap_73 (by decide) ?_
      refine lv_iadd hx hb dX0_heap_74 ?_
      refine tpI (y := nI (K + 1)) (nI_1 K) ?_
      refine pX_heapCount hx hb hts hin hown hK hP hD hS L29 dX0_heap_75 (fun H locs hP hD hS => ?_)
      refine lv_iload hx hb dX0_heap_78 (lv_at hl 0 rfl) ?_
      exact rIw hx hb hr hlk hS (by rw [if_pos ⟨cz1, cz2⟩]; exact hP) dX0_heap_80 (by rw [if_pos ⟨cz1, cz2⟩])
    · have cz2 : ¬ K < 10 := fun h => cz2 ((nI_ltI (a := K) (b := 10) (by omega) (by omega)).mpr h)
      refine lv_bipush (v := (-3)) hx hb dX0_heap_21 (by decide) ?_
      exact rIw hx hb hr hlk hS (by rw [if_neg (fun h => cz2 h.2), if_pos cz1]; exact hP) dX0_heap_23 (by rw [if_neg (fun h => cz2 h.2), if_pos cz1])
  · have cz1 := b2_0 cz1
    refine lv_iconst (v := (-1)) hx hb dX0_heap_10 (by decide) ?_
    exact rIw hx hb hr hlk hS (by rw [if_neg (fun h => cz1 h.1), if_neg cz1]; exact hP) dX0_heap_11 (by rw [if_neg (fun h => cz1 h.1), if_neg cz1])

theorem hdX0_drop : yX0_drop.cls = RX0 ∧ yX0_drop.cls ≠ "java/lang/invoke/MethodHandle" ∧ yX0_drop.cls ≠ "java/lang/invoke/VarHandle" ∧ (parseMethodDescriptor yX0_drop.desc).map (fun d => d.parameters.length) = some 0 := by decide +kernel
set_option maxHeartbeats 4000000 in
set_option maxRecDepth 100000 in
theorem kX0_drop {l : Launch} {D : va_G} {cy : ClassId} {H : Heap} {q : Nat → Nat} {gT gC : Int32} {ak : Int64} {ta pl cp kd fa fb bm sx sy : Nat → Int32} {N K S : Nat}  (hP : va_P D vwCl (wX cy q (nI N) gT gC (nI K) (nI S) ak ta pl cp kd fa fb bm sx sy) H) (hD : va_D (aL q) (wX cy q (nI N) gT gC (nI K) (nI S) ak ta pl cp kd fa fb bm sx sy))  (hKn : K ≤ 10) : Met l yX0_drop wsX0_drop { frames := 0, cells := 0, slots := 0, locals := 0 } (pcK D cy H [.ref (q 0)]) (qI (some (.int (if K = 0 then -2 else nI (K - 1)))) (va_P D vwCl (if K = 0 then wX cy q (nI N) gT gC (nI K) (nI S) ak ta pl cp kd fa fb bm sx sy else wX cy q (nI N) gT gC (nI (K - 1)) (nI S) ak ta pl cp kd fa fb bm sx sy)) (aL q)) 0 0 (aL q) := by
  refine mV 1 (by decide) rfl (Nat.le_of_ble_eq_true rfl) ?_
  intro p e s m below meth c hx hb hml hr hlk hts hown hnm hK hH ls hl
  have hC := (⟨hx, hb, hml, hown, hts⟩ : CallFix p m c cX0_drop 1 s _ wsX0_drop RX0)
  have hin : ∀ w ∈ wsX00, w ∈ wsX0_drop := by decide +kernel
  have L29 : Cond.fieldLink RX0 29 "TwoColours" "heapCount" "I" ∈ wsX0_drop := by decide +kernel
  have hl : lv_has ls 1 [(0, .ref (q 0))] := hl
  have hS : va_S (aL q) s.heap H [] := by rw [hH]; exact va_S.rf
  refine lv_aload_n hx hb dX0_drop_0 rfl (lv_at hl 0 rfl) ?_
  refine gX_heapCount hx hb hts hin hown hK hP L29 dX0_drop_1 ?_
  refine lv_if_ne (tgt := 10) hx hb dX0_drop_4 (by decide) (fun cz1 => ?_) (fun cz1 => ?_)
  · have cz1 : ¬ K = 0 := fun h => cz1 ((nI_eq (a := K) (b := 0) (by omega) (by omega)).mpr h)
    refine lv_aload_n hx hb dX0_drop_10 rfl (lv_at hl 0 rfl) ?_
    refine lv_dup hx hb dX0_drop_11 rfl ?_
    refine gX_heapCount hx hb hts hin hown hK hP L29 dX0_drop_12 ?_
    refine lv_iconst (v := 1) hx hb dX0_drop_15 (by decide) ?_
    refine lv_isub hx hb dX0_drop_16 ?_
    refine tpI (y := nI (K - 1)) (nI_sub1 cz1) ?_
    refine pX_heapCount hx hb hts hin hown hK hP hD hS L29 dX0_drop_17 (fun H locs hP hD hS => ?_)
    refine lv_aload_n hx hb dX0_drop_20 rfl (lv_at hl 0 rfl) ?_
    refine gX_heapCount hx hb hts hin hown hK hP L29 dX0_drop_21 ?_
    exact rIw hx hb hr hlk hS (by rw [if_neg cz1]; exact hP) dX0_drop_24 (by rw [if_neg cz1])
  · have cz1 : K = 0 := (nI_eq (a := K) (b := 0) (by omega) (by omega)).mp cz1
    refine lv_bipush (v := (-2)) hx hb dX0_drop_7 (by decide) ?_
    exact rIw hx hb hr hlk hS (by rw [if_pos cz1]; exact hP) dX0_drop_9 (by rw [if_pos cz1])

theorem hdX0_has : yX0_has.cls = RX0 ∧ yX0_has.cls ≠ "java/lang/invoke/MethodHandle" ∧ yX0_has.cls ≠ "java/lang/invoke/VarHandle" ∧ (parseMethodDescriptor yX0_has.desc).map (fun d => d.parameters.length) = some 2 := by decide +kernel
set_option maxHeartbeats 4000000 in
set_option maxRecDepth 100000 in
theorem kX0_has {l : Launch} {D : va_G} {cy : ClassId} {H : Heap} {q : Nat → Nat} {gT gC : Int32} {ak : Int64} {ta pl cp kd fa fb bm sx sy : Nat → Int32} {N K S : Nat}  (hP : va_P D vwCl (wX cy q (nI N) gT gC (nI K) (nI S) ak ta pl cp kd fa fb bm sx sy) H) (hD : va_D (aL q) (wX cy q (nI N) gT gC (nI K) (nI S) ak ta pl cp kd fa fb bm sx sy)) (k : Int32) (h : Int32) (hN : N ≤ 12) (hKn : K ≤ 10) : Met l yX0_has wsX0_has { frames := 1, cells := 0, slots := 0, locals := 21 } (pcK D cy H [.ref (q 0), .int k, .int h]) (qI (some (.int (if (0 ≤ k ∧ k < nI K) ∧ (0 ≤ h ∧ h < nI N) then bitI (bm (ix k)) h else -1))) (va_P D vwCl (if (0 ≤ k ∧ k < nI K) ∧ (0 ≤ h ∧ h < nI N) then wX cy q (nI N) gT gC (nI K) (nI S) (ak + (trI (kd (ix k))).toInt64) ta pl cp kd fa fb bm sx sy else wX cy q (nI N) gT gC (nI K) (nI S) ak ta pl cp kd fa fb bm sx sy)) (aL q)) 0 0 (aL q) := by
  refine mV 3 (by decide) rfl (Nat.le_of_ble_eq_true rfl) ?_
  intro p e s m below meth c hx hb hml hr hlk hts hown hnm hK hH ls hl
  have hC := (⟨hx, hb, hml, hown, hts⟩ : CallFix p m c cX0_has 3 s _ wsX0_has RX0)
  have hin : ∀ w ∈ wsX00, w ∈ wsX0_has := by decide +kernel
  have L32 : Cond.fieldLink RX0 32 "TwoColours" "heapKind" "[I" ∈ wsX0_has := by decide +kernel
  have L41 : Cond.fieldLink RX0 41 "TwoColours" "heapBits" "[I" ∈ wsX0_has := by decide +kernel
  have L53 : Cond.fieldLink RX0 53 "TwoColours" "asked" "J" ∈ wsX0_has := by decide +kernel
  have hl : lv_has ls 3 [(0, .ref (q 0)), (1, .int (k)), (2, .int (h))] := hl
  have hS : va_S (aL q) s.heap H [] := by rw [hH]; exact va_S.rf
  refine lv_aload_n hx hb dX0_has_0 rfl (lv_at hl 0 rfl) ?_
  refine lv_iload_n hx hb dX0_has_1 rfl (lv_at hl 1 rfl) ?_
  refine cV (As := [.int (k)]) hC hK hP rfl rfl (kX0_isHeap hP k ) [] (cwV 1 hts gX0_has_X0_isHeap rfl rfl rfl hdX0_isHeap ⟨Nat.le_of_ble_eq_true rfl, Nat.le_of_ble_eq_true rfl⟩) rfl hl.1 rfl (Nat.le_of_ble_eq_true rfl) dX0_has_2 ⟨Nat.zero_le _, Nat.zero_le _⟩ ?_
  refine lv_if_eq (tgt := 16) hx hb dX0_has_5 (by decide) (fun cz1 => ?_) (fun cz1 => ?_)
  · have cz1 := b2_0 cz1
    refine lv_iconst (v := (-1)) hx hb dX0_has_16 (by decide) ?_
    exact rIw hx hb hr hlk hS (by rw [if_neg (fun h => cz1 h.1)]; exact hP) dX0_has_17 (by rw [if_neg (fun h => cz1 h.1)])
  · have cz1 := b2_1 cz1
    obtain ⟨j, hj, ej⟩ := inN cz1 (by omega)
    subst ej
    refine lv_aload_n hx hb dX0_has_8 rfl (lv_at hl 0 rfl) ?_
    refine lv_iload_n hx hb dX0_has_9 rfl (lv_at hl 2 rfl) ?_
    refine cV (As := [.int (h)]) hC hK hP rfl rfl (kX0_isThing hP h ) [] (cwV 1 hts gX0_has_X0_isThing rfl rfl rfl hdX0_isThing ⟨Nat.le_of_ble_eq_true rfl, Nat.le_of_ble_eq_true rfl⟩) rfl hl.1 rfl (Nat.le_of_ble_eq_true rfl) dX0_has_10 ⟨Nat.zero_le _, Nat.zero_le _⟩ ?_
    refine lv_if_ne (tgt := 18) hx hb dX0_has_13 (by decide) (fun cz2 => ?_) (fun cz2 => ?_)
    · have cz2 := b2_1 cz2
      refine lv_aload_n hx hb dX0_has_18 rfl (lv_at hl 0 rfl) ?_
      refine lv_dup hx hb dX0_has_19 rfl ?_
      refine gX_asked hx hb hts hin hown hK hP L53 dX0_has_20 ?_
      refine lv_aload_n hx hb dX0_has_23 rfl (lv_at hl 0 rfl) ?_
      refine gX_heapKind hx hb hts hin hown hK hP L32 dX0_has_24 ?_
      refine lv_iload_n hx hb dX0_has_27 rfl (lv_at hl 1 rfl) ?_
      refine ldX_heapKind (j := j) hx hb hK hP rfl (by omega) dX0_has_28 ?_
      refine cS (As := [.int (kd j)]) hC (kX0_traceOf (kd j) ) [.long (ak), .ref (q 0)] (va_cwS 1 hts gX0_has_X0_traceOf rfl rfl rfl (by decide +kernel) ⟨Nat.le_of_ble_eq_true rfl, Nat.le_of_ble_eq_true rfl⟩) rfl hl.1 rfl (Nat.le_of_ble_eq_true rfl) dX0_has_29 ⟨Nat.zero_le _, Nat.zero_le _⟩ ?_
      refine lv_i2l hx hb dX0_has_32 rfl ?_
      refine lv_ladd hx hb dX0_has_33 ?_
      refine pX_asked hx hb hts hin hown hK hP hD hS L53 dX0_has_34 (fun H locs hP hD hS => ?_)
      refine lv_aload_n hx hb dX0_has_37 rfl (lv_at hl 0 rfl) ?_
      refine gX_heapBits hx hb hts hin hown hK hP L41 dX0_has_38 ?_
      refine lv_iload_n hx hb dX0_has_41 rfl (lv_at hl 1 rfl) ?_
      refine ldX_heapBits (j := j) hx hb hK hP rfl (by omega) dX0_has_42 ?_
      refine lv_iload_n hx hb dX0_has_43 rfl (lv_at hl 2 rfl) ?_
      refine cS (As := [.int (bm j), .int (h)]) hC (kX0_bitOf (bm j) h ) [] (va_cwS 2 hts gX0_has_X0_bitOf rfl rfl rfl (by decide +kernel) ⟨Nat.le_of_ble_eq_true rfl, Nat.le_of_ble_eq_true rfl⟩) rfl hl.1 rfl (Nat.le_of_ble_eq_true rfl) dX0_has_44 ⟨Nat.zero_le _, Nat.zero_le _⟩ ?_
      exact rIw hx hb hr hlk hS (by rw [if_pos ⟨cz1, cz2⟩, ix_nI (by omega)]; exact hP) dX0_has_47 (by rw [if_pos ⟨cz1, cz2⟩, ix_nI (by omega)])
    · have cz2 := b2_0 cz2
      refine lv_iconst (v := (-1)) hx hb dX0_has_16 (by decide) ?_
      exact rIw hx hb hr hlk hS (by rw [if_neg (fun h => cz2 h.2)]; exact hP) dX0_has_17 (by rw [if_neg (fun h => cz2 h.2)])

theorem hdX0_hold : yX0_hold.cls = RX0 ∧ yX0_hold.cls ≠ "java/lang/invoke/MethodHandle" ∧ yX0_hold.cls ≠ "java/lang/invoke/VarHandle" ∧ (parseMethodDescriptor yX0_hold.desc).map (fun d => d.parameters.length) = some 2 := by decide +kernel
set_option maxHeartbeats 4000000 in
set_option maxRecDepth 100000 in
theorem kX0_hold {l : Launch} {D : va_G} {cy : ClassId} {H : Heap} {q : Nat → Nat} {gT gC : Int32} {ak : Int64} {ta pl cp kd fa fb bm sx sy : Nat → Int32} {N K S : Nat}  (hP : va_P D vwCl (wX cy q (nI N) gT gC (nI K) (nI S) ak ta pl cp kd fa fb bm sx sy) H) (hD : va_D (aL q) (wX cy q (nI N) gT gC (nI K) (nI S) ak ta pl cp kd fa fb bm sx sy)) (k : Int32) (h : Int32)  : Met l yX0_hold wsX0_hold { frames := 2, cells := 0, slots := 0, locals := 42 } (pcK D cy H [.ref (q 0), .int k, .int h]) (qI (some (.int (if (0 ≤ k ∧ k < nI N) ∧ (-1 ≤ h ∧ h ≤ 1) then if bitI gT k = 1 then bitI gC k else -1 else -2))) (va_P D vwCl (if (0 ≤ k ∧ k < nI N) ∧ (-1 ≤ h ∧ h ≤ 1) then wX cy q (nI N) (if h = -1 then gT &&& (((1 : Int32) <<< (k &&& 31)) ^^^ -1) else gT ||| ((1 : Int32) <<< (k &&& 31))) (if h = 1 then gC ||| ((1 : Int32) <<< (k &&& 31)) else gC &&& (((1 : Int32) <<< (k &&& 31)) ^^^ -1)) (nI K) (nI S) ak ta pl cp kd fa fb bm sx sy else wX cy q (nI N) gT gC (nI K) (nI S) ak ta pl cp kd fa fb bm sx sy)) (aL q)) 0 0 (aL q) := by
  refine mV 5 (by decide) rfl (Nat.le_of_ble_eq_true rfl) ?_
  intro p e s m below meth c hx hb hml hr hlk hts hown hnm hK hH ls hl
  have hC := (⟨hx, hb, hml, hown, hts⟩ : CallFix p m c cX0_hold 5 s _ wsX0_hold RX0)
  have hin : ∀ w ∈ wsX00, w ∈ wsX0_hold := by decide +kernel
  have L20 : Cond.fieldLink RX0 20 "TwoColours" "heldThings" "I" ∈ wsX0_hold := by decide +kernel
  have L23 : Cond.fieldLink RX0 23 "TwoColours" "heldColours" "I" ∈ wsX0_hold := by decide +kernel
  have hl : lv_has ls 5 [(0, .ref (q 0)), (1, .int (k)), (2, .int (h))] := hl
  have hS : va_S (aL q) s.heap H [] := by rw [hH]; exact va_S.rf
  refine lv_aload_n hx hb dX0_hold_0 rfl (lv_at hl 0 rfl) ?_
  refine lv_iload_n hx hb dX0_hold_1 rfl (lv_at hl 1 rfl) ?_
  refine cV (As := [.int (k)]) hC hK hP rfl rfl (kX0_isThing hP k ) [] (cwV 1 hts gX0_hold_X0_isThing rfl rfl rfl hdX0_isThing ⟨Nat.le_of_ble_eq_true rfl, Nat.le_of_ble_eq_true rfl⟩) rfl hl.1 rfl (Nat.le_of_ble_eq_true rfl) dX0_hold_2 ⟨Nat.zero_le _, Nat.zero_le _⟩ ?_
  refine lv_if_eq (tgt := 18) hx hb dX0_hold_5 (by decide) (fun cz1 => ?_) (fun cz1 => ?_)
  · have cz1 := b2_0 cz1
    refine lv_bipush (v := (-2)) hx hb dX0_hold_18 (by decide) ?_
    exact rIw hx hb hr hlk hS (by rw [if_neg (fun h => cz1 h.1)]; exact hP) dX0_hold_20 (by rw [if_neg (fun h => cz1 h.1)])
  · have cz1 := b2_1 cz1
    refine lv_iload_n hx hb dX0_hold_8 rfl (lv_at hl 2 rfl) ?_
    refine lv_iconst (v := (-1)) hx hb dX0_hold_9 (by decide) ?_
    refine lv_icmp_lt (tgt := 18) hx hb dX0_hold_10 (by decide) (fun cz2 => ?_) (fun cz2 => ?_)
    · refine lv_bipush (v := (-2)) hx hb dX0_hold_18 (by decide) ?_
      exact rIw hx hb hr hlk hS (by rw [if_neg (fun h => absurd h.2.1 (Int32.not_le.mpr cz2))]; exact hP) dX0_hold_20 (by rw [if_neg (fun h => absurd h.2.1 (Int32.not_le.mpr cz2))])
    · refine lv_iload_n hx hb dX0_hold_13 rfl (lv_at hl 2 rfl) ?_
      refine lv_iconst (v := 1) hx hb dX0_hold_14 (by decide) ?_
      refine lv_icmp_le (tgt := 21) hx hb dX0_hold_15 (by decide) (fun cz3 => ?_) (fun cz3 => ?_)
      · refine lv_aload_n hx hb dX0_hold_21 rfl (lv_at hl 0 rfl) ?_
        refine lv_iload_n hx hb dX0_hold_22 rfl (lv_at hl 1 rfl) ?_
        refine cV (As := [.int (k)]) hC hK hP rfl rfl (kX0_isHeld hP k ) [] (cwV 1 hts gX0_hold_X0_isHeld rfl rfl rfl hdX0_isHeld ⟨Nat.le_of_ble_eq_true rfl, Nat.le_of_ble_eq_true rfl⟩) rfl hl.1 rfl (Nat.le_of_ble_eq_true rfl) dX0_hold_23 ⟨Nat.zero_le _, Nat.zero_le _⟩ ?_
        refine lv_if_eq (tgt := 40) hx hb dX0_hold_26 (by decide) (fun cz4 => ?_) (fun cz4 => ?_)
        · have cz4 := b2_0 cz4
          refine lv_iconst (v := (-1)) hx hb dX0_hold_40 (by decide) ?_
          refine lv_istore_n (lv' := [(3, .int (-1)), (0, .ref (q 0)), (1, .int (k)), (2, .int (h))]) hx hb dX0_hold_41 rfl hl (by decide) rfl (fun ls hl => ?_)
          refine lv_iconst (v := 1) hx hb dX0_hold_42 (by decide) ?_
          refine lv_iload_n hx hb dX0_hold_43 rfl (lv_at hl 2 rfl) ?_
          refine lv_ishl hx hb dX0_hold_44 ?_
          refine lv_istore (lv' := [(4, .int ((1 : Int32) <<< (k &&& 31))), (3, .int (-1)), (0, .ref (q 0)), (1, .int (k)), (2, .int (h))]) hx hb dX0_hold_45 hl (by decide) rfl (fun ls hl => ?_)
          refine lv_aload_n hx hb dX0_hold_47 rfl (lv_at hl 2 rfl) ?_
          refine lv_iload_n hx hb dX0_hold_48 rfl (lv_at hl 4 rfl) ?_
          refine lv_iconst (v := (-1)) hx hb dX0_hold_49 (by decide) ?_
          refine lv_icmp_ne (tgt := 65) hx hb dX0_hold_50 (by decide) (fun cz5 => ?_) (fun cz5 => ?_)
          · refine lv_aload_n hx hb dX0_hold_65 rfl (lv_at hl 2 rfl) ?_
            refine gX_heldThings hx hb hts hin hown hK hP L20 dX0_hold_66 ?_
            refine lv_iload hx hb dX0_hold_69 (lv_at hl 0 rfl) ?_
            refine lv_ior hx hb dX0_hold_71 ?_
            refine pX_heldThings hx hb hts hin hown hK hP hD hS L20 dX0_hold_72 (fun H locs hP hD hS => ?_)
            refine lv_aload_n hx hb dX0_hold_75 rfl (lv_at hl 2 rfl) ?_
            refine lv_iload_n hx hb dX0_hold_76 rfl (lv_at hl 4 rfl) ?_
            refine lv_iconst (v := 1) hx hb dX0_hold_77 (by decide) ?_
            refine lv_icmp_ne (tgt := 91) hx hb dX0_hold_78 (by decide) (fun cz6 => ?_) (fun cz6 => ?_)
            · refine lv_aload_n hx hb dX0_hold_91 rfl (lv_at hl 2 rfl) ?_
              refine gX_heldColours hx hb hts hin hown hK hP L23 dX0_hold_92 ?_
              refine lv_iload hx hb dX0_hold_95 (lv_at hl 0 rfl) ?_
              refine lv_iconst (v := (-1)) hx hb dX0_hold_97 (by decide) ?_
              refine lv_ixor hx hb dX0_hold_98 ?_
              refine lv_iand hx hb dX0_hold_99 ?_
              refine pX_heldColours hx hb hts hin hown hK hP hD hS L23 dX0_hold_100 (fun H locs hP hD hS => ?_)
              refine lv_iload_n hx hb dX0_hold_103 rfl (lv_at hl 1 rfl) ?_
              exact rIw hx hb hr hlk hS (by rw [if_pos ⟨cz1, Int32.not_lt.mp cz2, cz3⟩, if_neg cz5, if_neg cz6]; exact hP) dX0_hold_104 (by rw [if_pos ⟨cz1, Int32.not_lt.mp cz2, cz3⟩, if_neg cz4])
            · refine lv_aload_n hx hb dX0_hold_81 rfl (lv_at hl 2 rfl) ?_
              refine gX_heldColours hx hb hts hin hown hK hP L23 dX0_hold_82 ?_
              refine lv_iload hx hb dX0_hold_85 (lv_at hl 0 rfl) ?_
              refine lv_ior hx hb dX0_hold_87 ?_
              refine lv_goto (tgt := 100) hx hb dX0_hold_88 (by decide) ?_
              refine pX_heldColours hx hb hts hin hown hK hP hD hS L23 dX0_hold_100 (fun H locs hP hD hS => ?_)
              refine lv_iload_n hx hb dX0_hold_103 rfl (lv_at hl 1 rfl) ?_
              exact rIw hx hb hr hlk hS (by rw [if_pos ⟨cz1, Int32.not_lt.mp cz2, cz3⟩, if_neg cz5, if_pos cz6]; exact hP) dX0_hold_104 (by rw [if_pos ⟨cz1, Int32.not_lt.mp cz2, cz3⟩, if_neg cz4])
          · refine lv_aload_n hx hb dX0_hold_53 rfl (lv_at hl 2 rfl) ?_
            refine gX_heldThings hx hb hts hin hown hK hP L20 dX0_hold_54 ?_
            refine lv_iload hx hb dX0_hold_57 (lv_at hl 0 rfl) ?_
            refine lv_iconst (v := (-1)) hx hb dX0_hold_59 (by decide) ?_
            refine lv_ixor hx hb dX0_hold_60 ?_
            refine lv_iand hx hb dX0_hold_61 ?_
            refine lv_goto (tgt := 72) hx hb dX0_hold_62 (by decide) ?_
            refine pX_heldThings hx hb hts hin hown hK hP hD hS L20 dX0_hold_72 (fun H locs hP hD hS => ?_)
            refine lv_aload_n hx hb dX0_hold_75 rfl (lv_at hl 2 rfl) ?_
            refine lv_iload_n hx hb dX0_hold_76 rfl (lv_at hl 4 rfl) ?_
            refine lv_iconst (v := 1) hx hb dX0_hold_77 (by decide) ?_
            refine lv_icmp_ne (tgt := 91) hx hb dX0_hold_78 (by decide) (fun cz7 => ?_) (fun cz7 => ?_)
            · refine lv_aload_n hx hb dX0_hold_91 rfl (lv_at hl 2 rfl) ?_
              refine gX_heldColours hx hb hts hin hown hK hP L23 dX0_hold_92 ?_
              refine lv_iload hx hb dX0_hold_95 (lv_at hl 0 rfl) ?_
              refine lv_iconst (v := (-1)) hx hb dX0_hold_97 (by decide) ?_
              refine lv_ixor hx hb dX0_hold_98 ?_
              refine lv_iand hx hb dX0_hold_99 ?_
              refine pX_heldColours hx hb hts hin hown hK hP hD hS L23 dX0_hold_100 (fun H locs hP hD hS => ?_)
              refine lv_iload_n hx hb dX0_hold_103 rfl (lv_at hl 1 rfl) ?_
              exact rIw hx hb hr hlk hS (by rw [if_pos ⟨cz1, Int32.not_lt.mp cz2, cz3⟩, if_pos cz5, if_neg cz7]; exact hP) dX0_hold_104 (by rw [if_pos ⟨cz1, Int32.not_lt.mp cz2, cz3⟩, if_neg cz4])
            · refine lv_aload_n hx hb dX0_hold_81 rfl (lv_at hl 2 rfl) ?_
              refine gX_heldColours hx hb hts hin hown hK hP L23 dX0_hold_82 ?_
              refine lv_iload hx hb dX0_hold_85 (lv_at hl 0 rfl) ?_
              refine lv_ior hx hb dX0_hold_87 ?_
              refine lv_goto (tgt := 100) hx hb dX0_hold_88 (by decide) ?_
              refine pX_heldColours hx hb hts hin hown hK hP hD hS L23 dX0_hold_100 (fun H locs hP hD hS => ?_)
              refine lv_iload_n hx hb dX0_hold_103 rfl (lv_at hl 1 rfl) ?_
              exact rIw hx hb hr hlk hS (by rw [if_pos ⟨cz1, Int32.not_lt.mp cz2, cz3⟩, if_pos cz5, if_pos cz7]; exact hP) dX0_hold_104 (by rw [if_pos ⟨cz1, Int32.not_lt.mp cz2, cz3⟩, if_neg cz4])
        · have cz4 := b2_1 cz4
          refine lv_aload_n hx hb dX0_hold_29 rfl (lv_at hl 0 rfl) ?_
          refine gX_heldColours hx hb hts hin hown hK hP L23 dX0_hold_30 ?_
          refine lv_iload_n hx hb dX0_hold_33 rfl (lv_at hl 1 rfl) ?_
          refine cS (As := [.int (gC), .int (k)]) hC (kX0_bitOf gC k ) [] (va_cwS 2 hts gX0_hold_X0_bitOf rfl rfl rfl (by decide +kernel) ⟨Nat.le_of_ble_eq_true rfl, Nat.le_of_ble_eq_true rfl⟩) rfl hl.1 rfl (Nat.le_of_ble_eq_true rfl) dX0_hold_34 ⟨Nat.zero_le _, Nat.zero_le _⟩ ?_
          refine lv_goto (tgt := 41) hx hb dX0_hold_37 (by decide) ?_
          refine lv_istore_n (lv' := [(3, .int (bitI gC k)), (0, .ref (q 0)), (1, .int (k)), (2, .int (h))]) hx hb dX0_hold_41 rfl hl (by decide) rfl (fun ls hl => ?_)
          refine lv_iconst (v := 1) hx hb dX0_hold_42 (by decide) ?_
          refine lv_iload_n hx hb dX0_hold_43 rfl (lv_at hl 2 rfl) ?_
          refine lv_ishl hx hb dX0_hold_44 ?_
          refine lv_istore (lv' := [(4, .int ((1 : Int32) <<< (k &&& 31))), (3, .int (bitI gC k)), (0, .ref (q 0)), (1, .int (k)), (2, .int (h))]) hx hb dX0_hold_45 hl (by decide) rfl (fun ls hl => ?_)
          refine lv_aload_n hx hb dX0_hold_47 rfl (lv_at hl 2 rfl) ?_
          refine lv_iload_n hx hb dX0_hold_48 rfl (lv_at hl 4 rfl) ?_
          refine lv_iconst (v := (-1)) hx hb dX0_hold_49 (by decide) ?_
          refine lv_icmp_ne (tgt := 65) hx hb dX0_hold_50 (by decide) (fun cz8 => ?_) (fun cz8 => ?_)
          · refine lv_aload_n hx hb dX0_hold_65 rfl (lv_at hl 2 rfl) ?_
            refine gX_heldThings hx hb hts hin hown hK hP L20 dX0_hold_66 ?_
            refine lv_iload hx hb dX0_hold_69 (lv_at hl 0 rfl) ?_
            refine lv_ior hx hb dX0_hold_71 ?_
            refine pX_heldThings hx hb hts hin hown hK hP hD hS L20 dX0_hold_72 (fun H locs hP hD hS => ?_)
            refine lv_aload_n hx hb dX0_hold_75 rfl (lv_at hl 2 rfl) ?_
            refine lv_iload_n hx hb dX0_hold_76 rfl (lv_at hl 4 rfl) ?_
            refine lv_iconst (v := 1) hx hb dX0_hold_77 (by decide) ?_
            refine lv_icmp_ne (tgt := 91) hx hb dX0_hold_78 (by decide) (fun cz9 => ?_) (fun cz9 => ?_)
            · refine lv_aload_n hx hb dX0_hold_91 rfl (lv_at hl 2 rfl) ?_
              refine gX_heldColours hx hb hts hin hown hK hP L23 dX0_hold_92 ?_
              refine lv_iload hx hb dX0_hold_95 (lv_at hl 0 rfl) ?_
              refine lv_iconst (v := (-1)) hx hb dX0_hold_97 (by decide) ?_
              refine lv_ixor hx hb dX0_hold_98 ?_
              refine lv_iand hx hb dX0_hold_99 ?_
              refine pX_heldColours hx hb hts hin hown hK hP hD hS L23 dX0_hold_100 (fun H locs hP hD hS => ?_)
              refine lv_iload_n hx hb dX0_hold_103 rfl (lv_at hl 1 rfl) ?_
              exact rIw hx hb hr hlk hS (by rw [if_pos ⟨cz1, Int32.not_lt.mp cz2, cz3⟩, if_neg cz8, if_neg cz9]; exact hP) dX0_hold_104 (by rw [if_pos ⟨cz1, Int32.not_lt.mp cz2, cz3⟩, if_pos cz4])
            · refine lv_aload_n hx hb dX0_hold_81 rfl (lv_at hl 2 rfl) ?_
              refine gX_heldColours hx hb hts hin hown hK hP L23 dX0_hold_82 ?_
              refine lv_iload hx hb dX0_hold_85 (lv_at hl 0 rfl) ?_
              refine lv_ior hx hb dX0_hold_87 ?_
              refine lv_goto (tgt := 100) hx hb dX0_hold_88 (by decide) ?_
              refine pX_heldColours hx hb hts hin hown hK hP hD hS L23 dX0_hold_100 (fun H locs hP hD hS => ?_)
              refine lv_iload_n hx hb dX0_hold_103 rfl (lv_at hl 1 rfl) ?_
              exact rIw hx hb hr hlk hS (by rw [if_pos ⟨cz1, Int32.not_lt.mp cz2, cz3⟩, if_neg cz8, if_pos cz9]; exact hP) dX0_hold_104 (by rw [if_pos ⟨cz1, Int32.not_lt.mp cz2, cz3⟩, if_pos cz4])
          · refine lv_aload_n hx hb dX0_hold_53 rfl (lv_at hl 2 rfl) ?_
            refine gX_heldThings hx hb hts hin hown hK hP L20 dX0_hold_54 ?_
            refine lv_iload hx hb dX0_hold_57 (lv_at hl 0 rfl) ?_
            refine lv_iconst (v := (-1)) hx hb dX0_hold_59 (by decide) ?_
            refine lv_ixor hx hb dX0_hold_60 ?_
            refine lv_iand hx hb dX0_hold_61 ?_
            refine lv_goto (tgt := 72) hx hb dX0_hold_62 (by decide) ?_
            refine pX_heldThings hx hb hts hin hown hK hP hD hS L20 dX0_hold_72 (fun H locs hP hD hS => ?_)
            refine lv_aload_n hx hb dX0_hold_75 rfl (lv_at hl 2 rfl) ?_
            refine lv_iload_n hx hb dX0_hold_76 rfl (lv_at hl 4 rfl) ?_
            refine lv_iconst (v := 1) hx hb dX0_hold_77 (by decide) ?_
            refine lv_icmp_ne (tgt := 91) hx hb dX0_hold_78 (by decide) (fun cz10 => ?_) (fun cz10 => ?_)
            · refine lv_aload_n hx hb dX0_hold_91 rfl (lv_at hl 2 rfl) ?_
              refine gX_heldColours hx hb hts hin hown hK hP L23 dX0_hold_92 ?_
              refine lv_iload hx hb dX0_hold_95 (lv_at hl 0 rfl) ?_
              refine lv_iconst (v := (-1)) hx hb dX0_hold_97 (by decide) ?_
              refine lv_ixor hx hb dX0_hold_98 ?_
              refine lv_iand hx hb dX0_hold_99 ?_
              refine pX_heldColours hx hb hts hin hown hK hP hD hS L23 dX0_hold_100 (fun H locs hP hD hS => ?_)
              refine lv_iload_n hx hb dX0_hold_103 rfl (lv_at hl 1 rfl) ?_
              exact rIw hx hb hr hlk hS (by rw [if_pos ⟨cz1, Int32.not_lt.mp cz2, cz3⟩, if_pos cz8, if_neg cz10]; exact hP) dX0_hold_104 (by rw [if_pos ⟨cz1, Int32.not_lt.mp cz2, cz3⟩, if_pos cz4])
            · refine lv_aload_n hx hb dX0_hold_81 rfl (lv_at hl 2 rfl) ?_
              refine gX_heldColours hx hb hts hin hown hK hP L23 dX0_hold_82 ?_
              refine lv_iload hx hb dX0_hold_85 (lv_at hl 0 rfl) ?_
              refine lv_ior hx hb dX0_hold_87 ?_
              refine lv_goto (tgt := 100) hx hb dX0_hold_88 (by decide) ?_
              refine pX_heldColours hx hb hts hin hown hK hP hD hS L23 dX0_hold_100 (fun H locs hP hD hS => ?_)
              refine lv_iload_n hx hb dX0_hold_103 rfl (lv_at hl 1 rfl) ?_
              exact rIw hx hb hr hlk hS (by rw [if_pos ⟨cz1, Int32.not_lt.mp cz2, cz3⟩, if_pos cz8, if_pos cz10]; exact hP) dX0_hold_104 (by rw [if_pos ⟨cz1, Int32.not_lt.mp cz2, cz3⟩, if_pos cz4])
      · refine lv_bipush (v := (-2)) hx hb dX0_hold_18 (by decide) ?_
        exact rIw hx hb hr hlk hS (by rw [if_neg (fun h => cz3 h.2.2)]; exact hP) dX0_hold_20 (by rw [if_neg (fun h => cz3 h.2.2)])

theorem hdX0_step : yX0_step.cls = RX0 ∧ yX0_step.cls ≠ "java/lang/invoke/MethodHandle" ∧ yX0_step.cls ≠ "java/lang/invoke/VarHandle" ∧ (parseMethodDescriptor yX0_step.desc).map (fun d => d.parameters.length) = some 2 := by decide +kernel
set_option maxHeartbeats 4000000 in
set_option maxRecDepth 100000 in
theorem kX0_step {l : Launch} {D : va_G} {cy : ClassId} {H : Heap} {q : Nat → Nat} {gT gC : Int32} {ak : Int64} {ta pl cp kd fa fb bm sx sy : Nat → Int32} {N K S : Nat}  (hP : va_P D vwCl (wX cy q (nI N) gT gC (nI K) (nI S) ak ta pl cp kd fa fb bm sx sy) H) (hD : va_D (aL q) (wX cy q (nI N) gT gC (nI K) (nI S) ak ta pl cp kd fa fb bm sx sy)) (x : Int32) (y : Int32) (hSn : S ≤ 10) : Met l yX0_step wsX0_step { frames := 1, cells := 0, slots := 0, locals := 20 } (pcK D cy H [.ref (q 0), .int x, .int y]) (qI (some (.int (if ((-20 ≤ x ∧ x ≤ 20) ∧ (-20 ≤ y ∧ y ≤ 20)) ∧ S < 10 then nI S else if (-20 ≤ x ∧ x ≤ 20) ∧ (-20 ≤ y ∧ y ≤ 20) then -3 else -1))) (va_P D vwCl (if ((-20 ≤ x ∧ x ≤ 20) ∧ (-20 ≤ y ∧ y ≤ 20)) ∧ S < 10 then wX cy q (nI N) gT gC (nI K) (nI (S + 1)) ak ta pl cp kd fa fb bm (upd sx S x) (upd sy S y) else if (-20 ≤ x ∧ x ≤ 20) ∧ (-20 ≤ y ∧ y ≤ 20) then wX cy q (nI N) gT gC (nI K) (nI S) ak ta pl cp kd fa fb bm sx sy else wX cy q (nI N) gT gC (nI K) (nI S) ak ta pl cp kd fa fb bm sx sy)) (aL q)) 0 0 (aL q) := by
  refine mV 4 (by decide) rfl (Nat.le_of_ble_eq_true rfl) ?_
  intro p e s m below meth c hx hb hml hr hlk hts hown hnm hK hH ls hl
  have hC := (⟨hx, hb, hml, hown, hts⟩ : CallFix p m c cX0_step 4 s _ wsX0_step RX0)
  have hin : ∀ w ∈ wsX00, w ∈ wsX0_step := by decide +kernel
  have L44 : Cond.fieldLink RX0 44 "TwoColours" "stepCount" "I" ∈ wsX0_step := by decide +kernel
  have L47 : Cond.fieldLink RX0 47 "TwoColours" "stepX" "[I" ∈ wsX0_step := by decide +kernel
  have L50 : Cond.fieldLink RX0 50 "TwoColours" "stepY" "[I" ∈ wsX0_step := by decide +kernel
  have hl : lv_has ls 4 [(0, .ref (q 0)), (1, .int (x)), (2, .int (y))] := hl
  have hS : va_S (aL q) s.heap H [] := by rw [hH]; exact va_S.rf
  refine lv_iload_n hx hb dX0_step_0 rfl (lv_at hl 1 rfl) ?_
  refine cS (As := [.int (x)]) hC (kX0_isStepLength x ) [] (va_cwS 1 hts gX0_step_X0_isStepLength rfl rfl rfl (by decide +kernel) ⟨Nat.le_of_ble_eq_true rfl, Nat.le_of_ble_eq_true rfl⟩) rfl hl.1 rfl (Nat.le_of_ble_eq_true rfl) dX0_step_1 ⟨Nat.zero_le _, Nat.zero_le _⟩ ?_
  refine lv_if_eq (tgt := 14) hx hb dX0_step_4 (by decide) (fun cz1 => ?_) (fun cz1 => ?_)
  · have cz1 := b2_0 cz1
    refine lv_iconst (v := (-1)) hx hb dX0_step_14 (by decide) ?_
    exact rIw hx hb hr hlk hS (by rw [if_neg (fun h => (fun h => cz1 h.1) h.1), if_neg (fun h => cz1 h.1)]; exact hP) dX0_step_15 (by rw [if_neg (fun h => (fun h => cz1 h.1) h.1), if_neg (fun h => cz1 h.1)])
  · have cz1 := b2_1 cz1
    refine lv_iload_n hx hb dX0_step_7 rfl (lv_at hl 2 rfl) ?_
    refine cS (As := [.int (y)]) hC (kX0_isStepLength y ) [] (va_cwS 1 hts gX0_step_X0_isStepLength rfl rfl rfl (by decide +kernel) ⟨Nat.le_of_ble_eq_true rfl, Nat.le_of_ble_eq_true rfl⟩) rfl hl.1 rfl (Nat.le_of_ble_eq_true rfl) dX0_step_8 ⟨Nat.zero_le _, Nat.zero_le _⟩ ?_
    refine lv_if_ne (tgt := 16) hx hb dX0_step_11 (by decide) (fun cz2 => ?_) (fun cz2 => ?_)
    · have cz2 := b2_1 cz2
      refine lv_aload_n hx hb dX0_step_16 rfl (lv_at hl 0 rfl) ?_
      refine gX_stepCount hx hb hts hin hown hK hP L44 dX0_step_17 ?_
      refine lv_bipush (v := 10) hx hb dX0_step_20 (by decide) ?_
      refine lv_icmp_lt (tgt := 28) hx hb dX0_step_22 (by decide) (fun cz3 => ?_) (fun cz3 => ?_)
      · have cz3 : S < 10 := (nI_ltI (a := S) (b := 10) (by omega) (by omega)).mp cz3
        refine lv_aload_n hx hb dX0_step_28 rfl (lv_at hl 0 rfl) ?_
        refine gX_stepCount hx hb hts hin hown hK hP L44 dX0_step_29 ?_
        refine lv_istore_n (lv' := [(3, .int (nI S)), (0, .ref (q 0)), (1, .int (x)), (2, .int (y))]) hx hb dX0_step_32 rfl hl (by decide) rfl (fun ls hl => ?_)
        refine lv_aload_n hx hb dX0_step_33 rfl (lv_at hl 1 rfl) ?_
        refine gX_stepX hx hb hts hin hown hK hP L47 dX0_step_34 ?_
        refine lv_iload_n hx hb dX0_step_37 rfl (lv_at hl 0 rfl) ?_
        refine lv_iload_n hx hb dX0_step_38 rfl (lv_at hl 2 rfl) ?_
        refine stX_stepX (j := S) hx hb hK hP hD hS rfl (by omega) dX0_step_39 (fun H locs hP hD hS => ?_)
        refine lv_aload_n hx hb dX0_step_40 rfl (lv_at hl 1 rfl) ?_
        refine gX_stepY hx hb hts hin hown hK hP L50 dX0_step_41 ?_
        refine lv_iload_n hx hb dX0_step_44 rfl (lv_at hl 0 rfl) ?_
        refine lv_iload_n hx hb dX0_step_45 rfl (lv_at hl 3 rfl) ?_
        refine stX_stepY (j := S) hx hb hK hP hD hS rfl (by omega) dX0_step_46 (fun H locs hP hD hS => ?_)
        refine lv_aload_n hx hb dX0_step_47 rfl (lv_at hl 1 rfl) ?_
        refine lv_dup hx hb dX0_step_48 rfl ?_
        refine gX_stepCount hx hb hts hin hown hK hP L44 dX0_step_49 ?_
        refine lv_iconst (v := 1) hx hb dX0_step_52 (by decide) ?_
        refine lv_iadd hx hb dX0_step_53 ?_
        refine tpI (y := nI (S + 1)) (nI_1 S) ?_
        refine pX_stepCount hx hb hts hin hown hK hP hD hS L44 dX0_step_54 (fun H locs hP hD hS => ?_)
        refine lv_iload_n hx hb dX0_step_57 rfl (lv_at hl 0 rfl) ?_
        exact rIw hx hb hr hlk hS (by rw [if_pos ⟨⟨cz1, cz2⟩, cz3⟩]; exact hP) dX0_step_58 (by rw [if_pos ⟨⟨cz1, cz2⟩, cz3⟩])
      · have cz3 : ¬ S < 10 := fun h => cz3 ((nI_ltI (a := S) (b := 10) (by omega) (by omega)).mpr h)
        refine lv_bipush (v := (-3)) hx hb dX0_step_25 (by decide) ?_
        exact rIw hx hb hr hlk hS (by rw [if_neg (fun h => cz3 h.2), if_pos ⟨cz1, cz2⟩]; exact hP) dX0_step_27 (by rw [if_neg (fun h => cz3 h.2), if_pos ⟨cz1, cz2⟩])
    · have cz2 := b2_0 cz2
      refine lv_iconst (v := (-1)) hx hb dX0_step_14 (by decide) ?_
      exact rIw hx hb hr hlk hS (by rw [if_neg (fun h => (fun h => cz2 h.2) h.1), if_neg (fun h => cz2 h.2)]; exact hP) dX0_step_15 (by rw [if_neg (fun h => (fun h => cz2 h.2) h.1), if_neg (fun h => cz2 h.2)])

theorem hdX0_clear : yX0_clear.cls = RX0 ∧ yX0_clear.cls ≠ "java/lang/invoke/MethodHandle" ∧ yX0_clear.cls ≠ "java/lang/invoke/VarHandle" ∧ (parseMethodDescriptor yX0_clear.desc).map (fun d => d.parameters.length) = some 0 := by decide +kernel
set_option maxHeartbeats 4000000 in
set_option maxRecDepth 100000 in
theorem kX0_clear {l : Launch} {D : va_G} {cy : ClassId} {H : Heap} {q : Nat → Nat} {gT gC : Int32} {ak : Int64} {ta pl cp kd fa fb bm sx sy : Nat → Int32} {N K S : Nat}  (hP : va_P D vwCl (wX cy q (nI N) gT gC (nI K) (nI S) ak ta pl cp kd fa fb bm sx sy) H) (hD : va_D (aL q) (wX cy q (nI N) gT gC (nI K) (nI S) ak ta pl cp kd fa fb bm sx sy))   : Met l yX0_clear wsX0_clear { frames := 0, cells := 0, slots := 0, locals := 0 } (pcK D cy H [.ref (q 0)]) (qI (some (.int (nI S))) (va_P D vwCl (wX cy q (nI N) gT gC (nI K) (nI 0) ak ta pl cp kd fa fb bm sx sy)) (aL q)) 0 0 (aL q) := by
  refine mV 2 (by decide) rfl (Nat.le_of_ble_eq_true rfl) ?_
  intro p e s m below meth c hx hb hml hr hlk hts hown hnm hK hH ls hl
  have hC := (⟨hx, hb, hml, hown, hts⟩ : CallFix p m c cX0_clear 2 s _ wsX0_clear RX0)
  have hin : ∀ w ∈ wsX00, w ∈ wsX0_clear := by decide +kernel
  have L44 : Cond.fieldLink RX0 44 "TwoColours" "stepCount" "I" ∈ wsX0_clear := by decide +kernel
  have hl : lv_has ls 2 [(0, .ref (q 0))] := hl
  have hS : va_S (aL q) s.heap H [] := by rw [hH]; exact va_S.rf
  refine lv_aload_n hx hb dX0_clear_0 rfl (lv_at hl 0 rfl) ?_
  refine gX_stepCount hx hb hts hin hown hK hP L44 dX0_clear_1 ?_
  refine lv_istore_n (lv' := [(1, .int (nI S)), (0, .ref (q 0))]) hx hb dX0_clear_4 rfl hl (by decide) rfl (fun ls hl => ?_)
  refine lv_aload_n hx hb dX0_clear_5 rfl (lv_at hl 1 rfl) ?_
  refine lv_iconst (v := 0) hx hb dX0_clear_6 (by decide) ?_
  refine tpI (y := nI 0) nI_0.symm ?_
  refine pX_stepCount hx hb hts hin hown hK hP hD hS L44 dX0_clear_7 (fun H locs hP hD hS => ?_)
  refine lv_iload_n hx hb dX0_clear_10 rfl (lv_at hl 0 rfl) ?_
  exact rIw hx hb hr hlk hS hP dX0_clear_11 rfl

theorem hdX0_swap : yX0_swap.cls = RX0 ∧ yX0_swap.cls ≠ "java/lang/invoke/MethodHandle" ∧ yX0_swap.cls ≠ "java/lang/invoke/VarHandle" ∧ (parseMethodDescriptor yX0_swap.desc).map (fun d => d.parameters.length) = some 2 := by decide +kernel
set_option maxHeartbeats 4000000 in
set_option maxRecDepth 100000 in
theorem kX0_swap {l : Launch} {D : va_G} {cy : ClassId} {H : Heap} {q : Nat → Nat} {gT gC : Int32} {ak : Int64} {ta pl cp kd fa fb bm sx sy : Nat → Int32} {N K S : Nat}  (hP : va_P D vwCl (wX cy q (nI N) gT gC (nI K) (nI S) ak ta pl cp kd fa fb bm sx sy) H) (hD : va_D (aL q) (wX cy q (nI N) gT gC (nI K) (nI S) ak ta pl cp kd fa fb bm sx sy)) (k : Int32) (h : Int32) (hN : N ≤ 12) (hKn : K ≤ 10) (hta : ∀ j, j < 12 → ∃ u : Nat, u < 12 ∧ ta j = nI u) : Met l yX0_swap wsX0_swap { frames := 3, cells := 0, slots := 0, locals := 71 } (pcK D cy H [.ref (q 0), .int k, .int h]) (qI (some (.int (if (0 ≤ k ∧ k < nI N) ∧ (0 ≤ h ∧ h < nI N) then 1 else -1))) (va_P D vwCl (if (0 ≤ k ∧ k < nI N) ∧ (0 ≤ h ∧ h < nI N) then wX cy q (nI N) gT gC (nI K) (nI S) ak (swT ta (ix k) (ix h)) (swP pl ta (ix k) (ix h)) cp kd fa fb (rbF (hbX (swP pl ta (ix k) (ix h)) kd fa fb N) bm K) sx sy else wX cy q (nI N) gT gC (nI K) (nI S) ak ta pl cp kd fa fb bm sx sy)) (aL q)) 0 0 (aL q) := by
  refine mV 6 (by decide) rfl (Nat.le_of_ble_eq_true rfl) ?_
  intro p e s m below meth c hx hb hml hr hlk hts hown hnm hK hH ls hl
  have hC := (⟨hx, hb, hml, hown, hts⟩ : CallFix p m c cX0_swap 6 s _ wsX0_swap RX0)
  have hin : ∀ w ∈ wsX00, w ∈ wsX0_swap := by decide +kernel
  have L13 : Cond.fieldLink RX0 13 "TwoColours" "thingAt" "[I" ∈ wsX0_swap := by decide +kernel
  have L29 : Cond.fieldLink RX0 29 "TwoColours" "heapCount" "I" ∈ wsX0_swap := by decide +kernel
  have L32 : Cond.fieldLink RX0 32 "TwoColours" "heapKind" "[I" ∈ wsX0_swap := by decide +kernel
  have L35 : Cond.fieldLink RX0 35 "TwoColours" "heapA" "[I" ∈ wsX0_swap := by decide +kernel
  have L38 : Cond.fieldLink RX0 38 "TwoColours" "heapB" "[I" ∈ wsX0_swap := by decide +kernel
  have L41 : Cond.fieldLink RX0 41 "TwoColours" "heapBits" "[I" ∈ wsX0_swap := by decide +kernel
  have hl : lv_has ls 6 [(0, .ref (q 0)), (1, .int (k)), (2, .int (h))] := hl
  have hS : va_S (aL q) s.heap H [] := by rw [hH]; exact va_S.rf
  refine lv_aload_n hx hb dX0_swap_0 rfl (lv_at hl 0 rfl) ?_
  refine lv_iload_n hx hb dX0_swap_1 rfl (lv_at hl 1 rfl) ?_
  refine cV (As := [.int (k)]) hC hK hP rfl rfl (kX0_isThing hP k ) [] (cwV 1 hts gX0_swap_X0_isThing rfl rfl rfl hdX0_isThing ⟨Nat.le_of_ble_eq_true rfl, Nat.le_of_ble_eq_true rfl⟩) rfl hl.1 rfl (Nat.le_of_ble_eq_true rfl) dX0_swap_2 ⟨Nat.zero_le _, Nat.zero_le _⟩ ?_
  refine lv_if_eq (tgt := 16) hx hb dX0_swap_5 (by decide) (fun cz1 => ?_) (fun cz1 => ?_)
  · have cz1 := b2_0 cz1
    refine lv_iconst (v := (-1)) hx hb dX0_swap_16 (by decide) ?_
    exact rIw hx hb hr hlk hS (by rw [if_neg (fun h => cz1 h.1)]; exact hP) dX0_swap_17 (by rw [if_neg (fun h => cz1 h.1)])
  · have cz1 := b2_1 cz1
    obtain ⟨i1, hi1, e1⟩ := inN cz1 (by omega)
    subst e1
    obtain ⟨u1, hu1, eu1⟩ := hta i1 (by omega)
    refine lv_aload_n hx hb dX0_swap_8 rfl (lv_at hl 0 rfl) ?_
    refine lv_iload_n hx hb dX0_swap_9 rfl (lv_at hl 2 rfl) ?_
    refine cV (As := [.int (h)]) hC hK hP rfl rfl (kX0_isThing hP h ) [] (cwV 1 hts gX0_swap_X0_isThing rfl rfl rfl hdX0_isThing ⟨Nat.le_of_ble_eq_true rfl, Nat.le_of_ble_eq_true rfl⟩) rfl hl.1 rfl (Nat.le_of_ble_eq_true rfl) dX0_swap_10 ⟨Nat.zero_le _, Nat.zero_le _⟩ ?_
    refine lv_if_ne (tgt := 18) hx hb dX0_swap_13 (by decide) (fun cz2 => ?_) (fun cz2 => ?_)
    · have cz2 := b2_1 cz2
      obtain ⟨i2, hi2, e2⟩ := inN cz2 (by omega)
      subst e2
      obtain ⟨u2, hu2, eu2⟩ := hta i2 (by omega)
      refine lv_aload_n hx hb dX0_swap_18 rfl (lv_at hl 0 rfl) ?_
      refine gX_thingAt hx hb hts hin hown hK hP L13 dX0_swap_19 ?_
      refine lv_iload_n hx hb dX0_swap_22 rfl (lv_at hl 1 rfl) ?_
      refine ldX_thingAt (j := i1) hx hb hK hP rfl (by omega) dX0_swap_23 ?_
      refine tpI (y := nI u1) eu1 ?_
      refine lv_istore_n (lv' := [(3, .int (nI u1)), (0, .ref (q 0)), (1, .int (nI i1)), (2, .int (nI i2))]) hx hb dX0_swap_24 rfl hl (by decide) rfl (fun ls hl => ?_)
      refine lv_aload_n hx hb dX0_swap_25 rfl (lv_at hl 1 rfl) ?_
      refine gX_thingAt hx hb hts hin hown hK hP L13 dX0_swap_26 ?_
      refine lv_iload_n hx hb dX0_swap_29 rfl (lv_at hl 3 rfl) ?_
      refine ldX_thingAt (j := i2) hx hb hK hP rfl (by omega) dX0_swap_30 ?_
      refine tpI (y := nI u2) eu2 ?_
      refine lv_istore (lv' := [(4, .int (nI u2)), (3, .int (nI u1)), (0, .ref (q 0)), (1, .int (nI i1)), (2, .int (nI i2))]) hx hb dX0_swap_31 hl (by decide) rfl (fun ls hl => ?_)
      refine lv_aload_n hx hb dX0_swap_33 rfl (lv_at hl 2 rfl) ?_
      refine lv_iload_n hx hb dX0_swap_34 rfl (lv_at hl 3 rfl) ?_
      refine lv_iload hx hb dX0_swap_35 (lv_at hl 0 rfl) ?_
      refine cVw (As := [.int (nI i1), .int (nI u2)]) hC hK hP rfl rfl (kX0_putAt hP hD i1 u2 (by omega) (by omega)) [] (cwV 2 hts gX0_swap_X0_putAt rfl rfl rfl hdX0_putAt ⟨Nat.le_of_ble_eq_true rfl, Nat.le_of_ble_eq_true rfl⟩) rfl hl.1 rfl (Nat.le_of_ble_eq_true rfl) dX0_swap_37 ⟨Nat.zero_le _, Nat.zero_le _⟩ hS (fun _ h => h) (fun H locs hP hz hkp hS => ?_)
      have hD := vD_same (w2 := wX cy q (nI N) gT gC (nI K) (nI S) ak (upd ta i1 (nI u2)) (upd pl u2 (nI i1)) cp kd fa fb bm sx sy) (by rfl) hD
      refine lv_aload_n hx hb dX0_swap_40 rfl (lv_at hl 2 rfl) ?_
      refine lv_iload_n hx hb dX0_swap_41 rfl (lv_at hl 4 rfl) ?_
      refine lv_iload_n hx hb dX0_swap_42 rfl (lv_at hl 1 rfl) ?_
      refine cVw (As := [.int (nI i2), .int (nI u1)]) hC hK hP rfl rfl (kX0_putAt hP hD i2 u1 (by omega) (by omega)) [] (cwV 2 hts gX0_swap_X0_putAt rfl rfl rfl hdX0_putAt ⟨Nat.le_of_ble_eq_true rfl, Nat.le_of_ble_eq_true rfl⟩) rfl hl.1 rfl (Nat.le_of_ble_eq_true rfl) dX0_swap_43 ⟨Nat.zero_le _, Nat.zero_le _⟩ hS (fun _ h => h) (fun H locs hP hz hkp hS => ?_)
      have hD := vD_same (w2 := wX cy q (nI N) gT gC (nI K) (nI S) ak (upd (upd ta i1 (nI u2)) i2 (nI u1)) (upd (upd pl u2 (nI i1)) u1 (nI i2)) cp kd fa fb bm sx sy) (by rfl) hD
      refine lv_iconst (v := 0) hx hb dX0_swap_46 (by decide) ?_
      refine lv_istore (lv' := [(5, .int (0)), (4, .int (nI u2)), (3, .int (nI u1)), (0, .ref (q 0)), (1, .int (nI i1)), (2, .int (nI i2))]) hx hb dX0_swap_47 hl (by decide) rfl (fun ls hl => ?_)
      refine lpW (σ := Nat) 49 (fun i ls H locs => (i ≤ K) ∧ lv_has ls 6 [(0, .ref (q 0)), (5, .int (nI i))] ∧ va_P D vwCl (wX cy q (nI N) gT gC (nI K) (nI S) ak (upd (upd ta i1 (nI u2)) i2 (nI u1)) (upd (upd pl u2 (nI i1)) u1 (nI i2)) cp kd fa fb (rbF (hbX (upd (upd pl u2 (nI i1)) u1 (nI i2)) kd fa fb N) bm i) sx sy) H ∧ va_D (aL q) (wX cy q (nI N) gT gC (nI K) (nI S) ak (upd (upd ta i1 (nI u2)) i2 (nI u1)) (upd (upd pl u2 (nI i1)) u1 (nI i2)) cp kd fa fb (rbF (hbX (upd (upd pl u2 (nI i1)) u1 (nI i2)) kd fa fb N) bm i) sx sy) ∧ va_S (aL q) s.heap H locs) (fun i => K - i) ?_ (0) ls ⟨Nat.zero_le _, lv_sub hl [3, 0] rfl, hP, hD, hS⟩
      intro i ls H locs hI ih_49
      obtain ⟨hi, hl, hP, hD, hS⟩ := hI
      refine lv_iload hx hb dX0_swap_49 (lv_at hl 1 rfl) ?_
      refine lv_aload_n hx hb dX0_swap_51 rfl (lv_at hl 0 rfl) ?_
      refine gX_heapCount hx hb hts hin hown hK hP L29 dX0_swap_52 ?_
      refine lv_icmp_ge (tgt := 96) hx hb dX0_swap_55 (by decide) (fun cz3 => ?_) (fun cz3 => ?_)
      · have cz3 : K ≤ i := (nI_leI (a := K) (b := i) (by omega) (by omega)).mp cz3
        have ei : K = i := by omega
        subst ei
        refine lv_iconst (v := 1) hx hb dX0_swap_96 (by decide) ?_
        exact rIw hx hb hr hlk hS (by rw [if_pos ⟨cz1, cz2⟩, swT, swP, ix_nI (by omega), ix_nI (by omega), eu1, eu2, ix_nI (by omega), ix_nI (by omega)]; exact hP) dX0_swap_97 (by rw [if_pos ⟨cz1, cz2⟩])
      · have cz3 : ¬ K ≤ i := fun h => cz3 ((nI_leI (a := K) (b := i) (by omega) (by omega)).mpr h)
        refine lv_aload_n hx hb dX0_swap_58 rfl (lv_at hl 0 rfl) ?_
        refine gX_heapBits hx hb hts hin hown hK hP L41 dX0_swap_59 ?_
        refine lv_iload hx hb dX0_swap_62 (lv_at hl 1 rfl) ?_
        refine lv_aload_n hx hb dX0_swap_64 rfl (lv_at hl 0 rfl) ?_
        refine lv_aload_n hx hb dX0_swap_65 rfl (lv_at hl 0 rfl) ?_
        refine gX_heapKind hx hb hts hin hown hK hP L32 dX0_swap_66 ?_
        refine lv_iload hx hb dX0_swap_69 (lv_at hl 1 rfl) ?_
        refine ldX_heapKind (j := i) hx hb hK hP rfl (by omega) dX0_swap_71 ?_
        refine lv_aload_n hx hb dX0_swap_72 rfl (lv_at hl 0 rfl) ?_
        refine gX_heapA hx hb hts hin hown hK hP L35 dX0_swap_73 ?_
        refine lv_iload hx hb dX0_swap_76 (lv_at hl 1 rfl) ?_
        refine ldX_heapA (j := i) hx hb hK hP rfl (by omega) dX0_swap_78 ?_
        refine lv_aload_n hx hb dX0_swap_79 rfl (lv_at hl 0 rfl) ?_
        refine gX_heapB hx hb hts hin hown hK hP L38 dX0_swap_80 ?_
        refine lv_iload hx hb dX0_swap_83 (lv_at hl 1 rfl) ?_
        refine ldX_heapB (j := i) hx hb hK hP rfl (by omega) dX0_swap_85 ?_
        refine cV (As := [.int (kd i), .int (fa i), .int (fb i)]) hC hK hP rfl rfl (kX0_thingsOf hP (kd i) (fa i) (fb i) (by omega)) [.int (nI i), .ref (q 7)] (cwV 3 hts gX0_swap_X0_thingsOf rfl rfl rfl hdX0_thingsOf ⟨Nat.le_of_ble_eq_true rfl, Nat.le_of_ble_eq_true rfl⟩) rfl hl.1 rfl (Nat.le_of_ble_eq_true rfl) dX0_swap_86 ⟨Nat.zero_le _, Nat.zero_le _⟩ ?_
        refine stX_heapBits (j := i) hx hb hK hP hD hS rfl (by omega) dX0_swap_89 (fun H locs hP hD hS => ?_)
        refine lv_iinc (v := nI (i + 1)) (lv' := [(5, .int (nI (i + 1))), (0, .ref (q 0))]) hx hb dX0_swap_90 hl (k := 1) rfl (nI_1 _) (by decide) rfl (fun ls hl => ?_)
        refine lv_goto (tgt := 49) hx hb dX0_swap_93 (by decide) ?_
        exact ih_49 (i + 1) _ _ _ (by omega) ⟨by omega, lv_sub hl [1, 0] rfl, hP, vD_same (by rfl) hD, hS⟩
    · have cz2 := b2_0 cz2
      refine lv_iconst (v := (-1)) hx hb dX0_swap_16 (by decide) ?_
      exact rIw hx hb hr hlk hS (by rw [if_neg (fun h => cz2 h.2)]; exact hP) dX0_swap_17 (by rw [if_neg (fun h => cz2 h.2)])
end
section
/-! numbers below 4096 as sets of bits -/
theorem nx_and (a b : Nat) : nI a &&& nI b = nI (a &&& b) := by
  apply Int32.toBitVec_inj.1
  show BitVec.ofNat 32 a &&& BitVec.ofNat 32 b = BitVec.ofNat 32 (a &&& b)
  apply BitVec.eq_of_getLsbD_eq
  intro i hi
  simp [hi]
theorem nx_or (a b : Nat) : nI a ||| nI b = nI (a ||| b) := by
  apply Int32.toBitVec_inj.1
  show BitVec.ofNat 32 a ||| BitVec.ofNat 32 b = BitVec.ofNat 32 (a ||| b)
  apply BitVec.eq_of_getLsbD_eq
  intro i hi
  simp [hi]
theorem or0 (x : Int32) : x ||| 0 = x := by
  apply Int32.toBitVec_inj.1
  rw [Int32.toBitVec_or]
  show x.toBitVec ||| 0#32 = x.toBitVec
  simp
theorem leP {k : Int32} {n : Nat} (hn : n ≤ 4096) : (0 ≤ k ∧ k ≤ nI n - 1) ↔ (0 ≤ k ∧ k < nI n) := by
  have h1 : (nI n - 1).toInt = (n : Int) - 1 := by
    have := pk_sub_toInt (a := n) (b := 1) (by omega) (by omega)
    exact this
  have h2 : (nI n).toInt = (n : Int) := nI_toInt (by omega)
  constructor
  · intro h
    refine ⟨h.1, ?_⟩
    have := Int32.le_iff_toInt_le.mp h.2
    apply Int32.lt_iff_toInt_lt.mpr
    omega
  · intro h
    refine ⟨h.1, ?_⟩
    have := Int32.lt_iff_toInt_lt.mp h.2
    apply Int32.le_iff_toInt_le.mpr
    omega
/-- a number below 4096 -/
def sm (x : Int32) : Prop := ∃ j : Nat, j < 4096 ∧ x = nI j
theorem sm_nI {j : Nat} (h : j < 4096) : sm (nI j) := ⟨j, h, rfl⟩
theorem sm_and {x y : Int32} (h : sm y) (hx : sm x) : sm (x &&& y) := by
  obtain ⟨j, hj, rfl⟩ := h
  obtain ⟨i, hi, rfl⟩ := hx
  exact ⟨i &&& j, Nat.lt_of_le_of_lt Nat.and_le_right hj, nx_and i j⟩
theorem sm_in {x : Int32} {n : Nat} (h : 0 ≤ x ∧ x < nI n) (hn : n ≤ 4096) : sm x := by
  obtain ⟨j, hj, e⟩ := inN h (by omega)
  exact ⟨j, by omega, e⟩
def pcF : Nat → Nat → Nat
  | 0, _ => 0
  | f + 1, b => b % 2 + pcF f (b / 2)
def pcn (b : Nat) : Nat := pcF 12 b
set_option maxRecDepth 100000 in
theorem pcn_step : ∀ b, b < 4096 → b ≠ 0 → pcn b = pcn (b &&& (b - 1)) + 1 := by decide +kernel
set_option maxRecDepth 100000 in
theorem bc_pcn : ∀ b, b < 4096 → bcI (nI b) = nI (pcn b) := by decide +kernel
theorem and_pred {b : Nat} (h0 : b ≠ 0) : nI b &&& (nI b - 1) = nI (b &&& (b - 1)) := by
  rw [nI_sub1 (by omega)]
  exact nx_and _ _
theorem and_pred_lt {b : Nat} (h0 : b ≠ 0) : b &&& (b - 1) < b := Nat.lt_of_le_of_lt Nat.and_le_right (by omega)
theorem bit01 (b t : Int32) : bitI b t = 0 ∨ bitI b t = 1 := by
  obtain ⟨j, hj, e⟩ := pk_andE (b >>> (t &&& 31)) (m := 1) 1 (by decide)
  unfold bitI
  rw [e]
  rcases (show j = 0 ∨ j = 1 by omega) with rfl | rfl
  · exact Or.inl rfl
  · exact Or.inr rfl
theorem bit1 {b t : Int32} (h : ¬ bitI b t = 1) : bitI b t = 0 := (bit01 b t).resolve_right h
theorem s_l : ∀ n, n < 32 → ((nI n &&& 31).toBitVec.smod 32).toNat = n := by decide +kernel
theorem bit_nI {b t : Nat} (hb : b < 4096) (ht : t < 12) : bitI (nI b) (nI t) = if b.testBit t = true then 1 else 0 := by
  unfold bitI
  rw [pk_shrN (by omega) _ t (s_l t (by omega))]
  have h2 : b / 2 ^ t ≤ b := Nat.div_le_self _ _
  rw [pk_andN (by omega) 1 (by decide)]
  rw [Nat.testBit_eq_decide_div_mod_eq]
  by_cases h : b / 2 ^ t % 2 = 1
  · rw [if_pos (by simpa using h)]
    show nI (b / 2 ^ t % 2 ^ 1) = 1
    rw [show b / 2 ^ t % 2 ^ 1 = 1 from h]; rfl
  · rw [if_neg (by simpa using h)]
    show nI (b / 2 ^ t % 2 ^ 1) = 0
    rw [show b / 2 ^ t % 2 ^ 1 = 0 by omega]; rfl
def setN (P : Nat → Bool) : Nat → Nat
  | 0 => 0
  | k + 1 => if P k = true then 2 ^ k + setN P k else setN P k
theorem setN_lt (P : Nat → Bool) (n : Nat) : setN P n < 2 ^ n := by
  induction n with
  | zero => exact Nat.one_pos
  | succ n ih => rw [setN, Nat.pow_succ]; split <;> omega
theorem setF_nI (P : Nat → Bool) {n : Nat} (hn : n ≤ 12) : setF P n = nI (setN P n) := by
  induction n with
  | zero => exact nI_0.symm
  | succ n ih =>
    rw [setF, setN, ih (by omega)]
    by_cases h : P n = true
    · have e := Nat.two_pow_add_eq_or_of_lt (setN_lt P n) 1
      rw [Nat.mul_one] at e
      rw [if_pos h, if_pos h, shl1 n (by omega), nx_or, Nat.or_comm, ← e]
    · rw [if_neg h, if_neg h]
theorem setN_bit (P : Nat → Bool) (n t : Nat) : (setN P n).testBit t = (decide (t < n) && P t) := by
  induction n with
  | zero => simp [setN]
  | succ n ih =>
    rw [setN]
    by_cases h : P n = true
    · rw [if_pos h]
      rcases Nat.lt_trichotomy t n with h1 | h1 | h1
      · rw [Nat.testBit_two_pow_add_gt h1, ih]; simp [h1, Nat.lt_succ_of_lt h1]
      · subst h1; rw [Nat.testBit_two_pow_add_eq, ih]; simp [h]
      · rw [Nat.testBit_lt_two_pow (Nat.lt_of_lt_of_le (show 2 ^ n + setN P n < 2 ^ (n + 1) by have := setN_lt P n; rw [Nat.pow_succ]; omega) (Nat.pow_le_pow_right (by decide) h1))]
        simp; intro h2; omega
    · rw [if_neg h, ih]
      by_cases h1 : t = n
      · subst h1; simp [h]
      · rw [show decide (t < n + 1) = decide (t < n) by rw [decide_eq_decide]; omega]
theorem p12 {n : Nat} (h : n ≤ 12) : 2 ^ n ≤ 4096 := p2_le h
theorem setF_sm (P : Nat → Bool) {n : Nat} (hn : n ≤ 12) : sm (setF P n) := ⟨_, Nat.lt_of_lt_of_le (setN_lt P n) (p12 hn), setF_nI P hn⟩
theorem setF_bit (P : Nat → Bool) {n t : Nat} (hn : n ≤ 12) (ht : t < n) : bitI (setF P n) (nI t) = if P t = true then 1 else 0 := by
  rw [setF_nI P hn, bit_nI (Nat.lt_of_lt_of_le (setN_lt P n) (p12 hn)) (by omega), setN_bit]
  simp [ht]
theorem hbX_sm {pl kd fa fb : Nat → Int32} {N h : Nat} (hN : N ≤ 12) : sm (hbX pl kd fa fb N h) := setF_sm _ hN
theorem hbX_t {pl kd fa fb : Nat → Int32} {N h t : Nat} (hN : N ≤ 12) (ht : t < N) (hb : belX pl t (kd h) (fa h) (fb h) = true) : 1 = bitI (hbX pl kd fa fb N h) (nI t) := by
  unfold hbX; rw [setF_bit _ hN ht, if_pos hb]
theorem hbX_f {pl kd fa fb : Nat → Int32} {N h t : Nat} (hN : N ≤ 12) (ht : t < N) (hb : ¬ belX pl t (kd h) (fa h) (fb h) = true) : 0 = bitI (hbX pl kd fa fb N h) (nI t) := by
  unfold hbX; rw [setF_bit _ hN ht, if_neg hb]
/-- pl says where each thing below N stands in ta, first -/
def plOk (ta pl : Nat → Int32) (N : Nat) : Prop := ∀ t, t < N → ∃ u : Nat, u < 12 ∧ pl t = nI u ∧ ta u = nI t ∧ ∀ j, j < u → ¬ ta j = nI t
def hpOk (kd fa fb : Nat → Int32) (N K : Nat) : Prop := ∀ h, h < K → canX N (kd h) (fa h) (fb h) = true
theorem can_k {N : Nat} {k a b : Int32} (h : canX N k a b = true) : k = 0 ∨ k = 1 ∨ k = 2 ∨ k = 3 := by
  unfold canX at h
  by_cases h0 : k = 0
  · exact Or.inl h0
  · rw [if_neg h0] at h
    by_cases h1 : k = 1 ∨ k = 2
    · rcases h1 with h1 | h1
      · exact Or.inr (Or.inl h1)
      · exact Or.inr (Or.inr (Or.inl h1))
    · rw [if_neg h1] at h
      by_cases h3 : k = 3
      · exact Or.inr (Or.inr (Or.inr h3))
      · rw [if_neg h3] at h; cases h
theorem can_b {N : Nat} {k a b : Int32} (h : canX N k a b = true) (h3 : k = 3) : 0 < b := by
  unfold canX at h
  rw [if_neg (by rw [h3]; decide), if_neg (by rw [h3]; decide), if_pos h3] at h
  have h4 := (of_decide_eq_true h).2.1
  apply Int32.lt_iff_toInt_lt.mpr
  have h5 := Int32.le_iff_toInt_le.mp h4
  have : (1 : Int32).toInt = 1 := by decide
  have : (0 : Int32).toInt = 0 := by decide
  omega
theorem rbF_lt {g f : Nat → Int32} {K j : Nat} (h : j < K) : rbF g f K j = g j := by
  induction K with
  | zero => omega
  | succ K ih =>
    rw [rbF, upd]
    by_cases e : j = K
    · subst e; rw [if_pos rfl]
    · rw [if_neg e]; exact ih (by omega)
theorem rbF_ge {g f : Nat → Int32} {K j : Nat} (h : K ≤ j) : rbF g f K j = f j := by
  induction K with
  | zero => rfl
  | succ K ih => rw [rbF, upd, if_neg (by omega)]; exact ih (by omega)
theorem neg_abs (x : Int32) : (if x < 0 then -x else x) = absI x := by
  unfold absI
  by_cases h : x < 0
  · rw [if_pos h, if_neg (Int32.not_le.mpr h), Int32.zero_sub]
  · rw [if_neg h, if_pos (Int32.not_lt.mp h)]
end
section
/-! the reference's own functions -/
def chF (gh : Nat → Int32) : Nat → Int32
  | 0 => 0
  | k + 1 => chF gh k + (if gh k < 0 then 0 else 1)
def kpF (gh : Nat → Int32) (c : Int32) : Nat → Bool
  | 0 => true
  | k + 1 => kpF gh c k && decide (gh k < 0 ∨ gh k = bitI c (nI k))
theorem kpF_n {gh : Nat → Int32} {d : Int32} {k : Nat} (h : ¬ kpF gh d k = true) : ¬ kpF gh d (k + 1) = true := by
  rw [kpF, Bool.and_eq_true]; exact fun z => h z.1
theorem kpF_l {gh : Nat → Int32} {d : Int32} {k : Nat} (h : kpF gh d k = true) (h2 : gh k < 0) : kpF gh d (k + 1) = true := by
  rw [kpF, Bool.and_eq_true]; exact ⟨h, decide_eq_true (Or.inl h2)⟩
theorem kpF_e {gh : Nat → Int32} {d : Int32} {k : Nat} (h : kpF gh d k = true) (h2 : gh k = bitI d (nI k)) : kpF gh d (k + 1) = true := by
  rw [kpF, Bool.and_eq_true]; exact ⟨h, decide_eq_true (Or.inr h2)⟩
theorem kpF_f {gh : Nat → Int32} {d : Int32} {k : Nat} (h : ¬ gh k < 0) (h2 : ¬ gh k = bitI d (nI k)) : ¬ kpF gh d (k + 1) = true := by
  rw [kpF, Bool.and_eq_true]
  intro z
  rcases of_decide_eq_true z.2 with h3 | h3
  · exact h h3
  · exact h2 h3
theorem b2_eq0 {P : Prop} [Decidable P] (h : ¬ P) : b2 P = 0 := if_neg h
theorem b2_eq1 {P : Prop} [Decidable P] (h : P) : b2 P = 1 := if_pos h
theorem in012 {k : Int32} (h : 0 ≤ k ∧ k ≤ 2) (h2 : ¬ k = 2) (h0 : ¬ k = 0) : k = 1 := by
  obtain ⟨j, hj, rfl⟩ := nI_of2 (x := k) (M := 2) (n := 2) (by decide) (Int32.not_lt.mpr h.1) h.2
  rcases (show j = 0 ∨ j = 1 ∨ j = 2 by omega) with rfl | rfl | rfl
  · exact absurd rfl h0
  · rfl
  · exact absurd rfl h2
end
section
set_option maxHeartbeats 4000000 in
set_option maxRecDepth 100000 in
theorem kX1_in {l : Launch}  (z : Int32) (a : Int32) (b : Int32)  : Met l yX1_in wsX1_in { frames := 0, cells := 0, slots := 0, locals := 0 } (fun v _ => v = ([.int z, .int a, .int b] : List Value).toArray) (QcRead (b2 (a ≤ z ∧ z ≤ b))) 0 0 (fun _ => False) := by
  refine mS 3 (by decide) rfl (Nat.le_of_ble_eq_true rfl) ?_
  intro p e s m below meth c hx hb hml hr hlk hts hown ls hl
  have hC := (⟨hx, hb, hml, hown, hts⟩ : CallFix p m c cX1_in 3 s _ wsX1_in RX1)
  have hl : lv_has ls 3 [(0, .int (z)), (1, .int (a)), (2, .int (b))] := hl
  refine lv_iload_n hx hb dX1_in_0 rfl (lv_at hl 0 rfl) ?_
  refine lv_iload_n hx hb dX1_in_1 rfl (lv_at hl 1 rfl) ?_
  refine lv_icmp_lt (tgt := 14) hx hb dX1_in_2 (by decide) (fun cz1 => ?_) (fun cz1 => ?_)
  · refine lv_iconst (v := 0) hx hb dX1_in_14 (by decide) ?_
    exact rZ hx hb hr hlk rfl dX1_in_15 rfl (b2_f (by clear hl hC hts hown hx hb hr hlk hml; first | (simp_all [Int32.not_lt, Int32.not_le]; done) | grind))
  · refine lv_iload_n hx hb dX1_in_5 rfl (lv_at hl 0 rfl) ?_
    refine lv_iload_n hx hb dX1_in_6 rfl (lv_at hl 2 rfl) ?_
    refine lv_icmp_gt (tgt := 14) hx hb dX1_in_7 (by decide) (fun cz2 => ?_) (fun cz2 => ?_)
    · refine lv_iconst (v := 0) hx hb dX1_in_14 (by decide) ?_
      exact rZ hx hb hr hlk rfl dX1_in_15 rfl (b2_f (by clear hl hC hts hown hx hb hr hlk hml; first | (simp_all [Int32.not_lt, Int32.not_le]; done) | grind))
    · refine lv_iconst (v := 1) hx hb dX1_in_10 (by decide) ?_
      refine lv_goto (tgt := 15) hx hb dX1_in_11 (by decide) ?_
      exact rZ hx hb hr hlk rfl dX1_in_15 rfl (b2_t (by clear hl hC hts hown hx hb hr hlk hml; first | (simp_all [Int32.not_lt, Int32.not_le]; done) | grind))

theorem hdX1_isThing : yX1_isThing.cls = RX1 ∧ yX1_isThing.cls ≠ "java/lang/invoke/MethodHandle" ∧ yX1_isThing.cls ≠ "java/lang/invoke/VarHandle" ∧ (parseMethodDescriptor yX1_isThing.desc).map (fun d => d.parameters.length) = some 1 := by decide +kernel
set_option maxHeartbeats 4000000 in
set_option maxRecDepth 100000 in
theorem kX1_isThing {l : Launch} {D : va_G} {cy : ClassId} {H : Heap} {q : Nat → Nat} {ff fm fw : Int32} {ak : Int64} {ta gh kd fa fb sx sy mb co : Nat → Int32} {N K S : Nat}  (hP : va_P D vwCl (wM cy q (nI N) (nI K) (nI S) ff fm fw ak ta gh kd fa fb sx sy mb co) H) (k : Int32) (hN : N ≤ 12) : Met l yX1_isThing wsX1_isThing { frames := 1, cells := 0, slots := 0, locals := 22 } (pcK D cy H [.ref (q 0), .int k]) (QcRead (b2 (0 ≤ k ∧ k < nI N))) 0 0 (fun _ => False) := by
  refine mV 2 (by decide) rfl (Nat.le_of_ble_eq_true rfl) ?_
  intro p e s m below meth c hx hb hml hr hlk hts hown hnm hK hH ls hl
  have hC := (⟨hx, hb, hml, hown, hts⟩ : CallFix p m c cX1_isThing 2 s _ wsX1_isThing RX1)
  have hin : ∀ w ∈ wsX10, w ∈ wsX1_isThing := by decide +kernel
  have L7 : Cond.fieldLink RX1 7 "TwoColoursModel" "n" "I" ∈ wsX1_isThing := by decide +kernel
  have hl : lv_has ls 2 [(0, .ref (q 0)), (1, .int (k))] := hl
  refine lv_iload_n hx hb dX1_isThing_0 rfl (lv_at hl 1 rfl) ?_
  refine lv_iconst (v := 0) hx hb dX1_isThing_1 (by decide) ?_
  refine lv_aload_n hx hb dX1_isThing_2 rfl (lv_at hl 0 rfl) ?_
  refine gM_n hx hb hts hin hown hK hP L7 dX1_isThing_3 ?_
  refine lv_iconst (v := 1) hx hb dX1_isThing_6 (by decide) ?_
  refine lv_isub hx hb dX1_isThing_7 ?_
  refine cS (As := [.int (k), .int (0), .int ((nI N) - ((1 : Int32)))]) hC (kX1_in k 0 ((nI N) - ((1 : Int32))) ) [] (va_cwS 3 hts gX1_isThing_X1_in rfl rfl rfl (by decide +kernel) ⟨Nat.le_of_ble_eq_true rfl, Nat.le_of_ble_eq_true rfl⟩) rfl hl.1 rfl (Nat.le_of_ble_eq_true rfl) dX1_isThing_8 ⟨Nat.zero_le _, Nat.zero_le _⟩ ?_
  exact rZ hx hb hr hlk hH dX1_isThing_11 b2_nar (b2_congr (leP (by omega)))

theorem hdX1_isHeap : yX1_isHeap.cls = RX1 ∧ yX1_isHeap.cls ≠ "java/lang/invoke/MethodHandle" ∧ yX1_isHeap.cls ≠ "java/lang/invoke/VarHandle" ∧ (parseMethodDescriptor yX1_isHeap.desc).map (fun d => d.parameters.length) = some 1 := by decide +kernel
set_option maxHeartbeats 4000000 in
set_option maxRecDepth 100000 in
theorem kX1_isHeap {l : Launch} {D : va_G} {cy : ClassId} {H : Heap} {q : Nat → Nat} {ff fm fw : Int32} {ak : Int64} {ta gh kd fa fb sx sy mb co : Nat → Int32} {N K S : Nat}  (hP : va_P D vwCl (wM cy q (nI N) (nI K) (nI S) ff fm fw ak ta gh kd fa fb sx sy mb co) H) (k : Int32) (hKn : K ≤ 10) : Met l yX1_isHeap wsX1_isHeap { frames := 1, cells := 0, slots := 0, locals := 22 } (pcK D cy H [.ref (q 0), .int k]) (QcRead (b2 (0 ≤ k ∧ k < nI K))) 0 0 (fun _ => False) := by
  refine mV 2 (by decide) rfl (Nat.le_of_ble_eq_true rfl) ?_
  intro p e s m below meth c hx hb hml hr hlk hts hown hnm hK hH ls hl
  have hC := (⟨hx, hb, hml, hown, hts⟩ : CallFix p m c cX1_isHeap 2 s _ wsX1_isHeap RX1)
  have hin : ∀ w ∈ wsX10, w ∈ wsX1_isHeap := by decide +kernel
  have L41 : Cond.fieldLink RX1 41 "TwoColoursModel" "heaps" "I" ∈ wsX1_isHeap := by decide +kernel
  have hl : lv_has ls 2 [(0, .ref (q 0)), (1, .int (k))] := hl
  refine lv_iload_n hx hb dX1_isHeap_0 rfl (lv_at hl 1 rfl) ?_
  refine lv_iconst (v := 0) hx hb dX1_isHeap_1 (by decide) ?_
  refine lv_aload_n hx hb dX1_isHeap_2 rfl (lv_at hl 0 rfl) ?_
  refine gM_heaps hx hb hts hin hown hK hP L41 dX1_isHeap_3 ?_
  refine lv_iconst (v := 1) hx hb dX1_isHeap_6 (by decide) ?_
  refine lv_isub hx hb dX1_isHeap_7 ?_
  refine cS (As := [.int (k), .int (0), .int ((nI K) - ((1 : Int32)))]) hC (kX1_in k 0 ((nI K) - ((1 : Int32))) ) [] (va_cwS 3 hts gX1_isHeap_X1_in rfl rfl rfl (by decide +kernel) ⟨Nat.le_of_ble_eq_true rfl, Nat.le_of_ble_eq_true rfl⟩) rfl hl.1 rfl (Nat.le_of_ble_eq_true rfl) dX1_isHeap_8 ⟨Nat.zero_le _, Nat.zero_le _⟩ ?_
  exact rZ hx hb hr hlk hH dX1_isHeap_11 b2_nar (b2_congr (leP (by omega)))

theorem hdX1_isColouring : yX1_isColouring.cls = RX1 ∧ yX1_isColouring.cls ≠ "java/lang/invoke/MethodHandle" ∧ yX1_isColouring.cls ≠ "java/lang/invoke/VarHandle" ∧ (parseMethodDescriptor yX1_isColouring.desc).map (fun d => d.parameters.length) = some 1 := by decide +kernel
set_option maxHeartbeats 4000000 in
set_option maxRecDepth 100000 in
theorem kX1_isColouring {l : Launch} {D : va_G} {cy : ClassId} {H : Heap} {q : Nat → Nat} {ff fm fw : Int32} {ak : Int64} {ta gh kd fa fb sx sy mb co : Nat → Int32} {N K S : Nat}  (hP : va_P D vwCl (wM cy q (nI N) (nI K) (nI S) ff fm fw ak ta gh kd fa fb sx sy mb co) H) (k : Int32) (hN : N ≤ 12) : Met l yX1_isColouring wsX1_isColouring { frames := 1, cells := 0, slots := 0, locals := 22 } (pcK D cy H [.ref (q 0), .int k]) (QcRead (b2 (0 ≤ k ∧ k < nI (2 ^ N)))) 0 0 (fun _ => False) := by
  refine mV 2 (by decide) rfl (Nat.le_of_ble_eq_true rfl) ?_
  intro p e s m below meth c hx hb hml hr hlk hts hown hnm hK hH ls hl
  have hC := (⟨hx, hb, hml, hown, hts⟩ : CallFix p m c cX1_isColouring 2 s _ wsX1_isColouring RX1)
  have hin : ∀ w ∈ wsX10, w ∈ wsX1_isColouring := by decide +kernel
  have L7 : Cond.fieldLink RX1 7 "TwoColoursModel" "n" "I" ∈ wsX1_isColouring := by decide +kernel
  have hl : lv_has ls 2 [(0, .ref (q 0)), (1, .int (k))] := hl
  have h2N := p2_le hN
  have h2P := p2_pos N
  refine lv_iload_n hx hb dX1_isColouring_0 rfl (lv_at hl 1 rfl) ?_
  refine lv_iconst (v := 0) hx hb dX1_isColouring_1 (by decide) ?_
  refine lv_iconst (v := 1) hx hb dX1_isColouring_2 (by decide) ?_
  refine lv_aload_n hx hb dX1_isColouring_3 rfl (lv_at hl 0 rfl) ?_
  refine gM_n hx hb hts hin hown hK hP L7 dX1_isColouring_4 ?_
  refine lv_ishl hx hb dX1_isColouring_7 ?_
  refine tpI (y := nI (2 ^ N)) (shl1 N (by omega)) ?_
  refine lv_iconst (v := 1) hx hb dX1_isColouring_8 (by decide) ?_
  refine lv_isub hx hb dX1_isColouring_9 ?_
  refine cS (As := [.int (k), .int (0), .int ((nI (2 ^ N)) - ((1 : Int32)))]) hC (kX1_in k 0 ((nI (2 ^ N)) - ((1 : Int32))) ) [] (va_cwS 3 hts gX1_isColouring_X1_in rfl rfl rfl (by decide +kernel) ⟨Nat.le_of_ble_eq_true rfl, Nat.le_of_ble_eq_true rfl⟩) rfl hl.1 rfl (Nat.le_of_ble_eq_true rfl) dX1_isColouring_10 ⟨Nat.zero_le _, Nat.zero_le _⟩ ?_
  exact rZ hx hb hr hlk hH dX1_isColouring_13 b2_nar (b2_congr (leP (by omega)))

theorem hdX1_second : yX1_second.cls = RX1 ∧ yX1_second.cls ≠ "java/lang/invoke/MethodHandle" ∧ yX1_second.cls ≠ "java/lang/invoke/VarHandle" ∧ (parseMethodDescriptor yX1_second.desc).map (fun d => d.parameters.length) = some 1 := by decide +kernel
set_option maxHeartbeats 4000000 in
set_option maxRecDepth 100000 in
theorem kX1_second {l : Launch} {D : va_G} {cy : ClassId} {H : Heap} {q : Nat → Nat} {ff fm fw : Int32} {ak : Int64} {ta gh kd fa fb sx sy mb co : Nat → Int32} {N K S : Nat}  (hP : va_P D vwCl (wM cy q (nI N) (nI K) (nI S) ff fm fw ak ta gh kd fa fb sx sy mb co) H) (k : Int32) (hN : N ≤ 12) : Met l yX1_second wsX1_second { frames := 2, cells := 0, slots := 0, locals := 43 } (pcK D cy H [.ref (q 0), .int k]) (QcRead (if 0 ≤ k ∧ k < nI N then ta (ix k) else -1)) 0 0 (fun _ => False) := by
  refine mV 2 (by decide) rfl (Nat.le_of_ble_eq_true rfl) ?_
  intro p e s m below meth c hx hb hml hr hlk hts hown hnm hK hH ls hl
  have hC := (⟨hx, hb, hml, hown, hts⟩ : CallFix p m c cX1_second 2 s _ wsX1_second RX1)
  have hin : ∀ w ∈ wsX10, w ∈ wsX1_second := by decide +kernel
  have L13 : Cond.fieldLink RX1 13 "TwoColoursModel" "second" "[I" ∈ wsX1_second := by decide +kernel
  have hl : lv_has ls 2 [(0, .ref (q 0)), (1, .int (k))] := hl
  refine lv_aload_n hx hb dX1_second_0 rfl (lv_at hl 0 rfl) ?_
  refine lv_iload_n hx hb dX1_second_1 rfl (lv_at hl 1 rfl) ?_
  refine cV (As := [.int (k)]) hC hK hP rfl rfl (kX1_isThing hP k (by omega)) [] (cwV 1 hts gX1_second_X1_isThing rfl rfl rfl hdX1_isThing ⟨Nat.le_of_ble_eq_true rfl, Nat.le_of_ble_eq_true rfl⟩) rfl hl.1 rfl (Nat.le_of_ble_eq_true rfl) dX1_second_2 ⟨Nat.zero_le _, Nat.zero_le _⟩ ?_
  refine lv_if_eq (tgt := 17) hx hb dX1_second_5 (by decide) (fun cz1 => ?_) (fun cz1 => ?_)
  · have cz1 := b2_0 cz1
    refine lv_iconst (v := (-1)) hx hb dX1_second_17 (by decide) ?_
    exact rI hx hb hr hlk hH dX1_second_18 (by rw [if_neg cz1])
  · have cz1 := b2_1 cz1
    obtain ⟨j, hj, ej⟩ := inN cz1 (by omega)
    subst ej
    refine lv_aload_n hx hb dX1_second_8 rfl (lv_at hl 0 rfl) ?_
    refine gM_second hx hb hts hin hown hK hP L13 dX1_second_9 ?_
    refine lv_iload_n hx hb dX1_second_12 rfl (lv_at hl 1 rfl) ?_
    refine ldM_second (j := j) hx hb hK hP rfl (by omega) dX1_second_13 ?_
    refine lv_goto (tgt := 18) hx hb dX1_second_14 (by decide) ?_
    exact rI hx hb hr hlk hH dX1_second_18 (by rw [if_pos cz1, ix_nI (by omega)])

theorem hdX1_isWell : yX1_isWell.cls = RX1 ∧ yX1_isWell.cls ≠ "java/lang/invoke/MethodHandle" ∧ yX1_isWell.cls ≠ "java/lang/invoke/VarHandle" ∧ (parseMethodDescriptor yX1_isWell.desc).map (fun d => d.parameters.length) = some 3 := by decide +kernel
set_option maxHeartbeats 4000000 in
set_option maxRecDepth 100000 in
theorem kX1_isWell {l : Launch} {D : va_G} {cy : ClassId} {H : Heap} {q : Nat → Nat} {ff fm fw : Int32} {ak : Int64} {ta gh kd fa fb sx sy mb co : Nat → Int32} {N K S : Nat}  (hP : va_P D vwCl (wM cy q (nI N) (nI K) (nI S) ff fm fw ak ta gh kd fa fb sx sy mb co) H) (k : Int32) (a : Int32) (b : Int32) (hN : N ≤ 12) : Met l yX1_isWell wsX1_isWell { frames := 2, cells := 0, slots := 0, locals := 43 } (pcK D cy H [.ref (q 0), .int k, .int a, .int b]) (QcRead (b2 (canX N k a b = true))) 0 0 (fun _ => False) := by
  refine mV 4 (by decide) rfl (Nat.le_of_ble_eq_true rfl) ?_
  intro p e s m below meth c hx hb hml hr hlk hts hown hnm hK hH ls hl
  have hC := (⟨hx, hb, hml, hown, hts⟩ : CallFix p m c cX1_isWell 4 s _ wsX1_isWell RX1)
  have hin : ∀ w ∈ wsX10, w ∈ wsX1_isWell := by decide +kernel
  have L7 : Cond.fieldLink RX1 7 "TwoColoursModel" "n" "I" ∈ wsX1_isWell := by decide +kernel
  have hl : lv_has ls 4 [(0, .ref (q 0)), (1, .int (k)), (2, .int (a)), (3, .int (b))] := hl
  have h2N := p2_le hN
  have h2P := p2_pos N
  refine lv_iload_n hx hb dX1_isWell_0 rfl (lv_at hl 1 rfl) ?_
  refine lv_if_ne (tgt := 18) hx hb dX1_isWell_1 (by decide) (fun cz1 => ?_) (fun cz1 => ?_)
  · refine lv_iload_n hx hb dX1_isWell_18 rfl (lv_at hl 1 rfl) ?_
    refine lv_iconst (v := 1) hx hb dX1_isWell_19 (by decide) ?_
    refine lv_icmp_eq (tgt := 28) hx hb dX1_isWell_20 (by decide) (fun cz2 => ?_) (fun cz2 => ?_)
    · refine lv_aload_n hx hb dX1_isWell_28 rfl (lv_at hl 0 rfl) ?_
      refine lv_iload_n hx hb dX1_isWell_29 rfl (lv_at hl 2 rfl) ?_
      refine cV (As := [.int (a)]) hC hK hP rfl rfl (kX1_isThing hP a (by omega)) [] (cwV 1 hts gX1_isWell_X1_isThing rfl rfl rfl hdX1_isThing ⟨Nat.le_of_ble_eq_true rfl, Nat.le_of_ble_eq_true rfl⟩) rfl hl.1 rfl (Nat.le_of_ble_eq_true rfl) dX1_isWell_30 ⟨Nat.zero_le _, Nat.zero_le _⟩ ?_
      refine lv_if_eq (tgt := 53) hx hb dX1_isWell_33 (by decide) (fun cz3 => ?_) (fun cz3 => ?_)
      · have cz3 := b2_0 cz3
        refine lv_iconst (v := 0) hx hb dX1_isWell_53 (by decide) ?_
        exact rZ hx hb hr hlk hH dX1_isWell_54 rfl (b2_f (by clear hl hC hin hK hP hts hown hnm hx hb hr hlk hml; first | (simp_all [Int32.not_lt, Int32.not_le, canX]; done) | grind [canX]))
      · have cz3 := b2_1 cz3
        refine lv_aload_n hx hb dX1_isWell_36 rfl (lv_at hl 0 rfl) ?_
        refine lv_iload_n hx hb dX1_isWell_37 rfl (lv_at hl 3 rfl) ?_
        refine cV (As := [.int (b)]) hC hK hP rfl rfl (kX1_isThing hP b (by omega)) [] (cwV 1 hts gX1_isWell_X1_isThing rfl rfl rfl hdX1_isThing ⟨Nat.le_of_ble_eq_true rfl, Nat.le_of_ble_eq_true rfl⟩) rfl hl.1 rfl (Nat.le_of_ble_eq_true rfl) dX1_isWell_38 ⟨Nat.zero_le _, Nat.zero_le _⟩ ?_
        refine lv_if_eq (tgt := 53) hx hb dX1_isWell_41 (by decide) (fun cz4 => ?_) (fun cz4 => ?_)
        · have cz4 := b2_0 cz4
          refine lv_iconst (v := 0) hx hb dX1_isWell_53 (by decide) ?_
          exact rZ hx hb hr hlk hH dX1_isWell_54 rfl (b2_f (by clear hl hC hin hK hP hts hown hnm hx hb hr hlk hml; first | (simp_all [Int32.not_lt, Int32.not_le, canX]; done) | grind [canX]))
        · have cz4 := b2_1 cz4
          refine lv_iload_n hx hb dX1_isWell_44 rfl (lv_at hl 2 rfl) ?_
          refine lv_iload_n hx hb dX1_isWell_45 rfl (lv_at hl 3 rfl) ?_
          refine lv_icmp_gt (tgt := 53) hx hb dX1_isWell_46 (by decide) (fun cz5 => ?_) (fun cz5 => ?_)
          · refine lv_iconst (v := 0) hx hb dX1_isWell_53 (by decide) ?_
            exact rZ hx hb hr hlk hH dX1_isWell_54 rfl (b2_f (by clear hl hC hin hK hP hts hown hnm hx hb hr hlk hml; first | (simp_all [Int32.not_lt, Int32.not_le, canX]; done) | grind [canX]))
          · refine lv_iconst (v := 1) hx hb dX1_isWell_49 (by decide) ?_
            refine lv_goto (tgt := 54) hx hb dX1_isWell_50 (by decide) ?_
            exact rZ hx hb hr hlk hH dX1_isWell_54 rfl (b2_t (by clear hl hC hin hK hP hts hown hnm hx hb hr hlk hml; first | (simp_all [Int32.not_lt, Int32.not_le, canX]; done) | grind [canX]))
    · refine lv_iload_n hx hb dX1_isWell_23 rfl (lv_at hl 1 rfl) ?_
      refine lv_iconst (v := 2) hx hb dX1_isWell_24 (by decide) ?_
      refine lv_icmp_ne (tgt := 55) hx hb dX1_isWell_25 (by decide) (fun cz6 => ?_) (fun cz6 => ?_)
      · refine lv_iload_n hx hb dX1_isWell_55 rfl (lv_at hl 1 rfl) ?_
        refine lv_iconst (v := 3) hx hb dX1_isWell_56 (by decide) ?_
        refine lv_icmp_ne (tgt := 82) hx hb dX1_isWell_57 (by decide) (fun cz7 => ?_) (fun cz7 => ?_)
        · refine lv_iconst (v := 0) hx hb dX1_isWell_82 (by decide) ?_
          exact rZ hx hb hr hlk hH dX1_isWell_83 rfl (b2_f (by clear hl hC hin hK hP hts hown hnm hx hb hr hlk hml; first | (simp_all [Int32.not_lt, Int32.not_le, canX]; done) | grind [canX]))
        · refine lv_aload_n hx hb dX1_isWell_60 rfl (lv_at hl 0 rfl) ?_
          refine lv_iload_n hx hb dX1_isWell_61 rfl (lv_at hl 2 rfl) ?_
          refine cV (As := [.int (a)]) hC hK hP rfl rfl (kX1_isThing hP a (by omega)) [] (cwV 1 hts gX1_isWell_X1_isThing rfl rfl rfl hdX1_isThing ⟨Nat.le_of_ble_eq_true rfl, Nat.le_of_ble_eq_true rfl⟩) rfl hl.1 rfl (Nat.le_of_ble_eq_true rfl) dX1_isWell_62 ⟨Nat.zero_le _, Nat.zero_le _⟩ ?_
          refine lv_if_eq (tgt := 82) hx hb dX1_isWell_65 (by decide) (fun cz8 => ?_) (fun cz8 => ?_)
          · have cz8 := b2_0 cz8
            refine lv_iconst (v := 0) hx hb dX1_isWell_82 (by decide) ?_
            exact rZ hx hb hr hlk hH dX1_isWell_83 rfl (b2_f (by clear hl hC hin hK hP hts hown hnm hx hb hr hlk hml; first | (simp_all [Int32.not_lt, Int32.not_le, canX]; done) | grind [canX]))
          · have cz8 := b2_1 cz8
            refine lv_iload_n hx hb dX1_isWell_68 rfl (lv_at hl 3 rfl) ?_
            refine lv_iconst (v := 1) hx hb dX1_isWell_69 (by decide) ?_
            refine lv_bipush (v := 12) hx hb dX1_isWell_70 (by decide) ?_
            refine cS (As := [.int (b), .int (1), .int (12)]) hC (kX1_in b 1 12 ) [] (va_cwS 3 hts gX1_isWell_X1_in rfl rfl rfl (by decide +kernel) ⟨Nat.le_of_ble_eq_true rfl, Nat.le_of_ble_eq_true rfl⟩) rfl hl.1 rfl (Nat.le_of_ble_eq_true rfl) dX1_isWell_72 ⟨Nat.zero_le _, Nat.zero_le _⟩ ?_
            refine lv_if_eq (tgt := 82) hx hb dX1_isWell_75 (by decide) (fun cz9 => ?_) (fun cz9 => ?_)
            · have cz9 := b2_0 cz9
              refine lv_iconst (v := 0) hx hb dX1_isWell_82 (by decide) ?_
              exact rZ hx hb hr hlk hH dX1_isWell_83 rfl (b2_f (by clear hl hC hin hK hP hts hown hnm hx hb hr hlk hml; first | (simp_all [Int32.not_lt, Int32.not_le, canX]; done) | grind [canX]))
            · have cz9 := b2_1 cz9
              refine lv_iconst (v := 1) hx hb dX1_isWell_78 (by decide) ?_
              refine lv_goto (tgt := 83) hx hb dX1_isWell_79 (by decide) ?_
              exact rZ hx hb hr hlk hH dX1_isWell_83 rfl (b2_t (by clear hl hC hin hK hP hts hown hnm hx hb hr hlk hml; first | (simp_all [Int32.not_lt, Int32.not_le, canX]; done) | grind [canX]))
      · refine lv_aload_n hx hb dX1_isWell_28 rfl (lv_at hl 0 rfl) ?_
        refine lv_iload_n hx hb dX1_isWell_29 rfl (lv_at hl 2 rfl) ?_
        refine cV (As := [.int (a)]) hC hK hP rfl rfl (kX1_isThing hP a (by omega)) [] (cwV 1 hts gX1_isWell_X1_isThing rfl rfl rfl hdX1_isThing ⟨Nat.le_of_ble_eq_true rfl, Nat.le_of_ble_eq_true rfl⟩) rfl hl.1 rfl (Nat.le_of_ble_eq_true rfl) dX1_isWell_30 ⟨Nat.zero_le _, Nat.zero_le _⟩ ?_
        refine lv_if_eq (tgt := 53) hx hb dX1_isWell_33 (by decide) (fun cz10 => ?_) (fun cz10 => ?_)
        · have cz10 := b2_0 cz10
          refine lv_iconst (v := 0) hx hb dX1_isWell_53 (by decide) ?_
          exact rZ hx hb hr hlk hH dX1_isWell_54 rfl (b2_f (by clear hl hC hin hK hP hts hown hnm hx hb hr hlk hml; first | (simp_all [Int32.not_lt, Int32.not_le, canX]; done) | grind [canX]))
        · have cz10 := b2_1 cz10
          refine lv_aload_n hx hb dX1_isWell_36 rfl (lv_at hl 0 rfl) ?_
          refine lv_iload_n hx hb dX1_isWell_37 rfl (lv_at hl 3 rfl) ?_
          refine cV (As := [.int (b)]) hC hK hP rfl rfl (kX1_isThing hP b (by omega)) [] (cwV 1 hts gX1_isWell_X1_isThing rfl rfl rfl hdX1_isThing ⟨Nat.le_of_ble_eq_true rfl, Nat.le_of_ble_eq_true rfl⟩) rfl hl.1 rfl (Nat.le_of_ble_eq_true rfl) dX1_isWell_38 ⟨Nat.zero_le _, Nat.zero_le _⟩ ?_
          refine lv_if_eq (tgt := 53) hx hb dX1_isWell_41 (by decide) (fun cz11 => ?_) (fun cz11 => ?_)
          · have cz11 := b2_0 cz11
            refine lv_iconst (v := 0) hx hb dX1_isWell_53 (by decide) ?_
            exact rZ hx hb hr hlk hH dX1_isWell_54 rfl (b2_f (by clear hl hC hin hK hP hts hown hnm hx hb hr hlk hml; first | (simp_all [Int32.not_lt, Int32.not_le, canX]; done) | grind [canX]))
          · have cz11 := b2_1 cz11
            refine lv_iload_n hx hb dX1_isWell_44 rfl (lv_at hl 2 rfl) ?_
            refine lv_iload_n hx hb dX1_isWell_45 rfl (lv_at hl 3 rfl) ?_
            refine lv_icmp_gt (tgt := 53) hx hb dX1_isWell_46 (by decide) (fun cz12 => ?_) (fun cz12 => ?_)
            · refine lv_iconst (v := 0) hx hb dX1_isWell_53 (by decide) ?_
              exact rZ hx hb hr hlk hH dX1_isWell_54 rfl (b2_f (by clear hl hC hin hK hP hts hown hnm hx hb hr hlk hml; first | (simp_all [Int32.not_lt, Int32.not_le, canX]; done) | grind [canX]))
            · refine lv_iconst (v := 1) hx hb dX1_isWell_49 (by decide) ?_
              refine lv_goto (tgt := 54) hx hb dX1_isWell_50 (by decide) ?_
              exact rZ hx hb hr hlk hH dX1_isWell_54 rfl (b2_t (by clear hl hC hin hK hP hts hown hnm hx hb hr hlk hml; first | (simp_all [Int32.not_lt, Int32.not_le, canX]; done) | grind [canX]))
  · refine lv_iload_n hx hb dX1_isWell_4 rfl (lv_at hl 2 rfl) ?_
    refine lv_iconst (v := 0) hx hb dX1_isWell_5 (by decide) ?_
    refine lv_iconst (v := 1) hx hb dX1_isWell_6 (by decide) ?_
    refine lv_aload_n hx hb dX1_isWell_7 rfl (lv_at hl 0 rfl) ?_
    refine gM_n hx hb hts hin hown hK hP L7 dX1_isWell_8 ?_
    refine lv_ishl hx hb dX1_isWell_11 ?_
    refine tpI (y := nI (2 ^ N)) (shl1 N (by omega)) ?_
    refine lv_iconst (v := 1) hx hb dX1_isWell_12 (by decide) ?_
    refine lv_isub hx hb dX1_isWell_13 ?_
    refine cS (As := [.int (a), .int (0), .int ((nI (2 ^ N)) - ((1 : Int32)))]) hC (kX1_in a 0 ((nI (2 ^ N)) - ((1 : Int32))) ) [] (va_cwS 3 hts gX1_isWell_X1_in rfl rfl rfl (by decide +kernel) ⟨Nat.le_of_ble_eq_true rfl, Nat.le_of_ble_eq_true rfl⟩) rfl hl.1 rfl (Nat.le_of_ble_eq_true rfl) dX1_isWell_14 ⟨Nat.zero_le _, Nat.zero_le _⟩ ?_
    exact rZ hx hb hr hlk hH dX1_isWell_17 b2_nar (b2_congr (Iff.trans (leP (by omega)) (by rw [canX, if_pos cz1]; exact decide_eq_true_iff.symm)))

theorem hdX1_placeOf : yX1_placeOf.cls = RX1 ∧ yX1_placeOf.cls ≠ "java/lang/invoke/MethodHandle" ∧ yX1_placeOf.cls ≠ "java/lang/invoke/VarHandle" ∧ (parseMethodDescriptor yX1_placeOf.desc).map (fun d => d.parameters.length) = some 1 := by decide +kernel
set_option maxHeartbeats 4000000 in
set_option maxRecDepth 100000 in
theorem kX1_placeOf {l : Launch} {D : va_G} {cy : ClassId} {H : Heap} {q : Nat → Nat} {ff fm fw : Int32} {ak : Int64} {ta gh kd fa fb sx sy mb co : Nat → Int32} {N K S : Nat}  (hP : va_P D vwCl (wM cy q (nI N) (nI K) (nI S) ff fm fw ak ta gh kd fa fb sx sy mb co) H) (t : Nat) (u : Nat) (hu : u < 12) (h1 : ta u = nI t) (h2 : ∀ j, j < u → ¬ ta j = nI t) : Met l yX1_placeOf wsX1_placeOf { frames := 0, cells := 0, slots := 0, locals := 0 } (pcK D cy H [.ref (q 0), .int (nI t)]) (QcRead (nI u)) 0 0 (fun _ => False) := by
  refine mV 3 (by decide) rfl (Nat.le_of_ble_eq_true rfl) ?_
  intro p e s m below meth c hx hb hml hr hlk hts hown hnm hK hH ls hl
  have hC := (⟨hx, hb, hml, hown, hts⟩ : CallFix p m c cX1_placeOf 3 s _ wsX1_placeOf RX1)
  have hin : ∀ w ∈ wsX10, w ∈ wsX1_placeOf := by decide +kernel
  have L13 : Cond.fieldLink RX1 13 "TwoColoursModel" "second" "[I" ∈ wsX1_placeOf := by decide +kernel
  have hl : lv_has ls 3 [(0, .ref (q 0)), (1, .int (nI t))] := hl
  refine lv_iconst (v := 0) hx hb dX1_placeOf_0 (by decide) ?_
  refine lv_istore_n (lv' := [(2, .int (0)), (0, .ref (q 0)), (1, .int (nI t))]) hx hb dX1_placeOf_1 rfl hl (by decide) rfl (fun ls hl => ?_)
  refine lpP 2 (fun i ls => lv_has ls 3 [(0, .ref (q 0)), (1, .int (nI t)), (2, .int (nI i))]) (u) ?_ (0) ls (by omega) (lv_sub hl [1, 2, 0] rfl)
  intro i ls hi hl ih_2
  refine lv_aload_n hx hb dX1_placeOf_2 rfl (lv_at hl 0 rfl) ?_
  refine gM_second hx hb hts hin hown hK hP L13 dX1_placeOf_3 ?_
  refine lv_iload_n hx hb dX1_placeOf_6 rfl (lv_at hl 2 rfl) ?_
  refine ldM_second (j := i) hx hb hK hP rfl (by omega) dX1_placeOf_7 ?_
  refine lv_iload_n hx hb dX1_placeOf_8 rfl (lv_at hl 1 rfl) ?_
  refine lv_icmp_eq (tgt := 18) hx hb dX1_placeOf_9 (by decide) (fun cz1 => ?_) (fun cz1 => ?_)
  · refine lv_iload_n hx hb dX1_placeOf_18 rfl (lv_at hl 2 rfl) ?_
    exact rI hx hb hr hlk hH dX1_placeOf_19 (by rw [show i = u from Nat.le_antisymm hi (Nat.le_of_not_lt fun h => h2 i h cz1)])
  · have hne : ¬ i = u := fun h => cz1 (by rw [h]; exact h1)
    refine lv_iinc (v := nI (i + 1)) (lv' := [(2, .int (nI (i + 1))), (0, .ref (q 0)), (1, .int (nI t))]) hx hb dX1_placeOf_12 hl (k := 2) rfl (nI_1 _) (by decide) rfl (fun ls hl => ?_)
    refine lv_goto (tgt := 2) hx hb dX1_placeOf_15 (by decide) ?_
    exact ih_2 _ (by omega) (lv_sub hl [1, 2, 0] rfl)

theorem hdX1_holds : yX1_holds.cls = RX1 ∧ yX1_holds.cls ≠ "java/lang/invoke/MethodHandle" ∧ yX1_holds.cls ≠ "java/lang/invoke/VarHandle" ∧ (parseMethodDescriptor yX1_holds.desc).map (fun d => d.parameters.length) = some 2 := by decide +kernel
set_option maxHeartbeats 4000000 in
set_option maxRecDepth 100000 in
theorem kX1_holds {l : Launch} {D : va_G} {cy : ClassId} {H : Heap} {q : Nat → Nat} {ff fm fw : Int32} {ak : Int64} {ta gh kd fa fb sx sy mb co : Nat → Int32} {N K S : Nat} {pl : Nat → Int32} (hP : va_P D vwCl (wM cy q (nI N) (nI K) (nI S) ff fm fw ak ta gh kd fa fb sx sy mb co) H) (j : Nat) (t : Nat) (hN : N ≤ 12) (hKn : K ≤ 10) (hpl : plOk ta pl N) (hw : hpOk kd fa fb N K) (hj : j < K) (ht : t < N) : Met l yX1_holds wsX1_holds { frames := 1, cells := 0, slots := 0, locals := 22 } (pcK D cy H [.ref (q 0), .int (nI j), .int (nI t)]) (QcRead (b2 (belX pl t (kd j) (fa j) (fb j) = true))) 0 0 (fun _ => False) := by
  refine mV 3 (by decide) rfl (Nat.le_of_ble_eq_true rfl) ?_
  intro p e s m below meth c hx hb hml hr hlk hts hown hnm hK hH ls hl
  have hC := (⟨hx, hb, hml, hown, hts⟩ : CallFix p m c cX1_holds 3 s _ wsX1_holds RX1)
  have hin : ∀ w ∈ wsX10, w ∈ wsX1_holds := by decide +kernel
  have L20 : Cond.fieldLink RX1 20 "TwoColoursModel" "kind" "[I" ∈ wsX1_holds := by decide +kernel
  have L23 : Cond.fieldLink RX1 23 "TwoColoursModel" "from" "[I" ∈ wsX1_holds := by decide +kernel
  have L26 : Cond.fieldLink RX1 26 "TwoColoursModel" "to" "[I" ∈ wsX1_holds := by decide +kernel
  have hl : lv_has ls 3 [(0, .ref (q 0)), (1, .int (nI j)), (2, .int (nI t))] := hl
  have hk4 := can_k (hw j hj)
  have hk3 := can_b (hw j hj)
  obtain ⟨u, hu, eu, h1, h2⟩ := hpl t ht
  refine lv_aload_n hx hb dX1_holds_0 rfl (lv_at hl 0 rfl) ?_
  refine gM_kind hx hb hts hin hown hK hP L20 dX1_holds_1 ?_
  refine lv_iload_n hx hb dX1_holds_4 rfl (lv_at hl 1 rfl) ?_
  refine ldM_kind (j := j) hx hb hK hP rfl (by omega) dX1_holds_5 ?_
  by_cases cz1 : kd j = 0
  · refine lv_tableIn (off := 26) (tgt := 32) hx hb dX1_holds_6 (by rw [cz1]; decide) (by rw [cz1]; decide) (by rw [cz1]; decide) (by decide) ?_
    refine lv_aload_n hx hb dX1_holds_32 rfl (lv_at hl 0 rfl) ?_
    refine gM_from hx hb hts hin hown hK hP L23 dX1_holds_33 ?_
    refine lv_iload_n hx hb dX1_holds_36 rfl (lv_at hl 1 rfl) ?_
    refine ldM_from (j := j) hx hb hK hP rfl (by omega) dX1_holds_37 ?_
    refine lv_iload_n hx hb dX1_holds_38 rfl (lv_at hl 2 rfl) ?_
    refine lv_ishr hx hb dX1_holds_39 ?_
    refine lv_iconst (v := 1) hx hb dX1_holds_40 (by decide) ?_
    refine lv_iand hx hb dX1_holds_41 ?_
    refine lv_iconst (v := 1) hx hb dX1_holds_42 (by decide) ?_
    refine lv_icmp_ne (tgt := 50) hx hb dX1_holds_43 (by decide) (fun cz2 => ?_) (fun cz2 => ?_)
    · refine lv_iconst (v := 0) hx hb dX1_holds_50 (by decide) ?_
      exact rZ hx hb hr hlk hH dX1_holds_51 rfl (b2_f (by clear hl hC hin hK hP hts hown hnm hx hb hr hlk hml; first | (simp_all [Int32.not_lt, Int32.not_le, belX, bitI]; done) | grind [belX, bitI]))
    · refine lv_iconst (v := 1) hx hb dX1_holds_46 (by decide) ?_
      refine lv_goto (tgt := 51) hx hb dX1_holds_47 (by decide) ?_
      exact rZ hx hb hr hlk hH dX1_holds_51 rfl (b2_t (by clear hl hC hin hK hP hts hown hnm hx hb hr hlk hml; first | (simp_all [Int32.not_lt, Int32.not_le, belX, bitI]; done) | grind [belX, bitI]))
  by_cases cz3 : kd j = 1
  · refine lv_tableIn (off := 46) (tgt := 52) hx hb dX1_holds_6 (by rw [cz3]; decide) (by rw [cz3]; decide) (by rw [cz3]; decide) (by decide) ?_
    refine lv_iload_n hx hb dX1_holds_52 rfl (lv_at hl 2 rfl) ?_
    refine lv_aload_n hx hb dX1_holds_53 rfl (lv_at hl 0 rfl) ?_
    refine gM_from hx hb hts hin hown hK hP L23 dX1_holds_54 ?_
    refine lv_iload_n hx hb dX1_holds_57 rfl (lv_at hl 1 rfl) ?_
    refine ldM_from (j := j) hx hb hK hP rfl (by omega) dX1_holds_58 ?_
    refine lv_aload_n hx hb dX1_holds_59 rfl (lv_at hl 0 rfl) ?_
    refine gM_to hx hb hts hin hown hK hP L26 dX1_holds_60 ?_
    refine lv_iload_n hx hb dX1_holds_63 rfl (lv_at hl 1 rfl) ?_
    refine ldM_to (j := j) hx hb hK hP rfl (by omega) dX1_holds_64 ?_
    refine cS (As := [.int (nI t), .int (fa j), .int (fb j)]) hC (kX1_in (nI t) (fa j) (fb j) ) [] (va_cwS 3 hts gX1_holds_X1_in rfl rfl rfl (by decide +kernel) ⟨Nat.le_of_ble_eq_true rfl, Nat.le_of_ble_eq_true rfl⟩) rfl hl.1 rfl (Nat.le_of_ble_eq_true rfl) dX1_holds_65 ⟨Nat.zero_le _, Nat.zero_le _⟩ ?_
    exact rZ hx hb hr hlk hH dX1_holds_68 b2_nar (b2_congr (by clear hl hC hin hK hP hts hown hnm hx hb hr hlk hml; first | (simp_all [Int32.not_lt, Int32.not_le, belX, bitI]; done) | grind [belX, bitI]))
  by_cases cz4 : kd j = 2
  · refine lv_tableIn (off := 63) (tgt := 69) hx hb dX1_holds_6 (by rw [cz4]; decide) (by rw [cz4]; decide) (by rw [cz4]; decide) (by decide) ?_
    refine lv_aload_n hx hb dX1_holds_69 rfl (lv_at hl 0 rfl) ?_
    refine lv_iload_n hx hb dX1_holds_70 rfl (lv_at hl 2 rfl) ?_
    refine cV (As := [.int (nI t)]) hC hK hP rfl rfl (kX1_placeOf hP t u hu h1 h2) [] (cwV 1 hts gX1_holds_X1_placeOf rfl rfl rfl hdX1_placeOf ⟨Nat.le_of_ble_eq_true rfl, Nat.le_of_ble_eq_true rfl⟩) rfl hl.1 rfl (Nat.le_of_ble_eq_true rfl) dX1_holds_71 ⟨Nat.zero_le _, Nat.zero_le _⟩ ?_
    refine tpI (y := pl t) eu.symm ?_
    refine lv_aload_n hx hb dX1_holds_74 rfl (lv_at hl 0 rfl) ?_
    refine gM_from hx hb hts hin hown hK hP L23 dX1_holds_75 ?_
    refine lv_iload_n hx hb dX1_holds_78 rfl (lv_at hl 1 rfl) ?_
    refine ldM_from (j := j) hx hb hK hP rfl (by omega) dX1_holds_79 ?_
    refine lv_aload_n hx hb dX1_holds_80 rfl (lv_at hl 0 rfl) ?_
    refine gM_to hx hb hts hin hown hK hP L26 dX1_holds_81 ?_
    refine lv_iload_n hx hb dX1_holds_84 rfl (lv_at hl 1 rfl) ?_
    refine ldM_to (j := j) hx hb hK hP rfl (by omega) dX1_holds_85 ?_
    refine cS (As := [.int (pl t), .int (fa j), .int (fb j)]) hC (kX1_in (pl t) (fa j) (fb j) ) [] (va_cwS 3 hts gX1_holds_X1_in rfl rfl rfl (by decide +kernel) ⟨Nat.le_of_ble_eq_true rfl, Nat.le_of_ble_eq_true rfl⟩) rfl hl.1 rfl (Nat.le_of_ble_eq_true rfl) dX1_holds_86 ⟨Nat.zero_le _, Nat.zero_le _⟩ ?_
    exact rZ hx hb hr hlk hH dX1_holds_89 b2_nar (b2_congr (by clear hl hC hin hK hP hts hown hnm hx hb hr hlk hml; first | (simp_all [Int32.not_lt, Int32.not_le, belX, bitI]; done) | grind [belX, bitI]))
  refine lv_tableOut (tgt := 90) hx hb dX1_holds_6 (by have h0 := lv_neT (a := 0) cz1 (by decide); have h1 := lv_neT (a := 1) cz3 (by decide); have h2 := lv_neT (a := 2) cz4 (by decide); omega) (by decide) ?_
  refine lv_iload_n hx hb dX1_holds_90 rfl (lv_at hl 2 rfl) ?_
  refine lv_aload_n hx hb dX1_holds_91 rfl (lv_at hl 0 rfl) ?_
  refine gM_from hx hb hts hin hown hK hP L23 dX1_holds_92 ?_
  refine lv_iload_n hx hb dX1_holds_95 rfl (lv_at hl 1 rfl) ?_
  refine ldM_from (j := j) hx hb hK hP rfl (by omega) dX1_holds_96 ?_
  refine lv_icmp_lt (tgt := 122) hx hb dX1_holds_97 (by decide) (fun cz5 => ?_) (fun cz5 => ?_)
  · refine lv_iconst (v := 0) hx hb dX1_holds_122 (by decide) ?_
    exact rZ hx hb hr hlk hH dX1_holds_123 rfl (b2_f (by clear hl hC hin hK hP hts hown hnm hx hb hr hlk hml; first | (simp_all [Int32.not_lt, Int32.not_le, belX, bitI]; done) | grind [belX, bitI]))
  · refine lv_iload_n hx hb dX1_holds_100 rfl (lv_at hl 2 rfl) ?_
    refine lv_aload_n hx hb dX1_holds_101 rfl (lv_at hl 0 rfl) ?_
    refine gM_from hx hb hts hin hown hK hP L23 dX1_holds_102 ?_
    refine lv_iload_n hx hb dX1_holds_105 rfl (lv_at hl 1 rfl) ?_
    refine ldM_from (j := j) hx hb hK hP rfl (by omega) dX1_holds_106 ?_
    refine lv_isub hx hb dX1_holds_107 ?_
    refine lv_aload_n hx hb dX1_holds_108 rfl (lv_at hl 0 rfl) ?_
    refine gM_to hx hb hts hin hown hK hP L26 dX1_holds_109 ?_
    refine lv_iload_n hx hb dX1_holds_112 rfl (lv_at hl 1 rfl) ?_
    refine ldM_to (j := j) hx hb hK hP rfl (by omega) dX1_holds_113 ?_
    refine lv_irem hx hb dX1_holds_114 (fun h => by have h5 := hk3 (by simp_all); rw [h] at h5; exact absurd h5 (by decide)) ?_
    refine lv_if_ne (tgt := 122) hx hb dX1_holds_115 (by decide) (fun cz6 => ?_) (fun cz6 => ?_)
    · refine lv_iconst (v := 0) hx hb dX1_holds_122 (by decide) ?_
      exact rZ hx hb hr hlk hH dX1_holds_123 rfl (b2_f (by clear hl hC hin hK hP hts hown hnm hx hb hr hlk hml; first | (simp_all [Int32.not_lt, Int32.not_le, belX, bitI]; done) | grind [belX, bitI]))
    · refine lv_iconst (v := 1) hx hb dX1_holds_118 (by decide) ?_
      refine lv_goto (tgt := 123) hx hb dX1_holds_119 (by decide) ?_
      exact rZ hx hb hr hlk hH dX1_holds_123 rfl (b2_t (by clear hl hC hin hK hP hts hown hnm hx hb hr hlk hml; first | (simp_all [Int32.not_lt, Int32.not_le, belX, bitI]; done) | grind [belX, bitI]))

theorem hdX1_bitsOf : yX1_bitsOf.cls = RX1 ∧ yX1_bitsOf.cls ≠ "java/lang/invoke/MethodHandle" ∧ yX1_bitsOf.cls ≠ "java/lang/invoke/VarHandle" ∧ (parseMethodDescriptor yX1_bitsOf.desc).map (fun d => d.parameters.length) = some 1 := by decide +kernel
set_option maxHeartbeats 4000000 in
set_option maxRecDepth 100000 in
theorem kX1_bitsOf {l : Launch} {D : va_G} {cy : ClassId} {H : Heap} {q : Nat → Nat} {ff fm fw : Int32} {ak : Int64} {ta gh kd fa fb sx sy mb co : Nat → Int32} {N K S : Nat} {pl : Nat → Int32} (hP : va_P D vwCl (wM cy q (nI N) (nI K) (nI S) ff fm fw ak ta gh kd fa fb sx sy mb co) H) (j : Nat) (hN : N ≤ 12) (hKn : K ≤ 10) (hpl : plOk ta pl N) (hw : hpOk kd fa fb N K) (hj : j < K) : Met l yX1_bitsOf wsX1_bitsOf { frames := 2, cells := 0, slots := 0, locals := 44 } (pcK D cy H [.ref (q 0), .int (nI j)]) (QcRead (hbX pl kd fa fb N j)) 0 0 (fun _ => False) := by
  refine mV 4 (by decide) rfl (Nat.le_of_ble_eq_true rfl) ?_
  intro p e s m below meth c hx hb hml hr hlk hts hown hnm hK hH ls hl
  have hC := (⟨hx, hb, hml, hown, hts⟩ : CallFix p m c cX1_bitsOf 4 s _ wsX1_bitsOf RX1)
  have hin : ∀ w ∈ wsX10, w ∈ wsX1_bitsOf := by decide +kernel
  have L7 : Cond.fieldLink RX1 7 "TwoColoursModel" "n" "I" ∈ wsX1_bitsOf := by decide +kernel
  have hl : lv_has ls 4 [(0, .ref (q 0)), (1, .int (nI j))] := hl
  refine lv_iconst (v := 0) hx hb dX1_bitsOf_0 (by decide) ?_
  refine lv_istore_n (lv' := [(2, .int (0)), (0, .ref (q 0)), (1, .int (nI j))]) hx hb dX1_bitsOf_1 rfl hl (by decide) rfl (fun ls hl => ?_)
  refine lv_iconst (v := 0) hx hb dX1_bitsOf_2 (by decide) ?_
  refine lv_istore_n (lv' := [(3, .int (0)), (2, .int (0)), (0, .ref (q 0)), (1, .int (nI j))]) hx hb dX1_bitsOf_3 rfl hl (by decide) rfl (fun ls hl => ?_)
  refine lpP 4 (fun i ls => lv_has ls 4 [(0, .ref (q 0)), (1, .int (nI j)), (2, .int (setF (fun t => belX pl t (kd j) (fa j) (fb j)) i)), (3, .int (nI i))]) (N) ?_ (0) ls (by omega) (lv_sub hl [2, 3, 1, 0] rfl)
  intro i ls hi hl ih_4
  refine lv_iload_n hx hb dX1_bitsOf_4 rfl (lv_at hl 3 rfl) ?_
  refine lv_aload_n hx hb dX1_bitsOf_5 rfl (lv_at hl 0 rfl) ?_
  refine gM_n hx hb hts hin hown hK hP L7 dX1_bitsOf_6 ?_
  refine lv_icmp_ge (tgt := 37) hx hb dX1_bitsOf_9 (by decide) (fun cz1 => ?_) (fun cz1 => ?_)
  · have cz1 : N ≤ i := (nI_leI (a := N) (b := i) (by omega) (by omega)).mp cz1
    refine lv_iload_n hx hb dX1_bitsOf_37 rfl (lv_at hl 2 rfl) ?_
    exact rI hx hb hr hlk hH dX1_bitsOf_38 (by rw [show i = N by omega]; rfl)
  · have cz1 : ¬ N ≤ i := fun h => cz1 ((nI_leI (a := N) (b := i) (by omega) (by omega)).mpr h)
    refine lv_iload_n hx hb dX1_bitsOf_12 rfl (lv_at hl 2 rfl) ?_
    refine lv_aload_n hx hb dX1_bitsOf_13 rfl (lv_at hl 0 rfl) ?_
    refine lv_iload_n hx hb dX1_bitsOf_14 rfl (lv_at hl 1 rfl) ?_
    refine lv_iload_n hx hb dX1_bitsOf_15 rfl (lv_at hl 3 rfl) ?_
    refine cV (As := [.int (nI j), .int (nI i)]) hC hK hP rfl rfl (kX1_holds hP j i hN hKn hpl hw hj (by omega)) [.int (setF (fun t => belX pl t (kd j) (fa j) (fb j)) i)] (cwV 2 hts gX1_bitsOf_X1_holds rfl rfl rfl hdX1_holds ⟨Nat.le_of_ble_eq_true rfl, Nat.le_of_ble_eq_true rfl⟩) rfl hl.1 rfl (Nat.le_of_ble_eq_true rfl) dX1_bitsOf_16 ⟨Nat.zero_le _, Nat.zero_le _⟩ ?_
    refine lv_if_eq (tgt := 28) hx hb dX1_bitsOf_19 (by decide) (fun cz2 => ?_) (fun cz2 => ?_)
    · have cz2 := b2_0 cz2
      refine lv_iconst (v := 0) hx hb dX1_bitsOf_28 (by decide) ?_
      refine lv_ior hx hb dX1_bitsOf_29 ?_
      refine lv_istore_n (lv' := [(2, .int ((setF (fun t => belX pl t (kd j) (fa j) (fb j)) i) ||| ((0 : Int32)))), (0, .ref (q 0)), (1, .int (nI j)), (3, .int (nI i))]) hx hb dX1_bitsOf_30 rfl hl (by decide) rfl (fun ls hl => ?_)
      refine lv_iinc (v := nI (i + 1)) (lv' := [(3, .int (nI (i + 1))), (2, .int ((setF (fun t => belX pl t (kd j) (fa j) (fb j)) i) ||| ((0 : Int32)))), (0, .ref (q 0)), (1, .int (nI j))]) hx hb dX1_bitsOf_31 hl (k := 3) rfl (nI_1 _) (by decide) rfl (fun ls hl => ?_)
      refine lv_goto (tgt := 4) hx hb dX1_bitsOf_34 (by decide) ?_
      exact ih_4 _ (by omega) (by rw [setF_f (by assumption), ← or0 (setF _ i)]; exact lv_sub hl [2, 3, 1, 0] rfl)
    · have cz2 := b2_1 cz2
      refine lv_iconst (v := 1) hx hb dX1_bitsOf_22 (by decide) ?_
      refine lv_iload_n hx hb dX1_bitsOf_23 rfl (lv_at hl 3 rfl) ?_
      refine lv_ishl hx hb dX1_bitsOf_24 ?_
      refine lv_goto (tgt := 29) hx hb dX1_bitsOf_25 (by decide) ?_
      refine lv_ior hx hb dX1_bitsOf_29 ?_
      refine lv_istore_n (lv' := [(2, .int ((setF (fun t => belX pl t (kd j) (fa j) (fb j)) i) ||| ((1 : Int32) <<< ((nI i) &&& 31)))), (0, .ref (q 0)), (1, .int (nI j)), (3, .int (nI i))]) hx hb dX1_bitsOf_30 rfl hl (by decide) rfl (fun ls hl => ?_)
      refine lv_iinc (v := nI (i + 1)) (lv' := [(3, .int (nI (i + 1))), (2, .int ((setF (fun t => belX pl t (kd j) (fa j) (fb j)) i) ||| ((1 : Int32) <<< ((nI i) &&& 31)))), (0, .ref (q 0)), (1, .int (nI j))]) hx hb dX1_bitsOf_31 hl (k := 3) rfl (nI_1 _) (by decide) rfl (fun ls hl => ?_)
      refine lv_goto (tgt := 4) hx hb dX1_bitsOf_34 (by decide) ?_
      exact ih_4 _ (by omega) (by rw [setF_t (by assumption)]; exact lv_sub hl [2, 3, 1, 0] rfl)

theorem hdX1_bits : yX1_bits.cls = RX1 ∧ yX1_bits.cls ≠ "java/lang/invoke/MethodHandle" ∧ yX1_bits.cls ≠ "java/lang/invoke/VarHandle" ∧ (parseMethodDescriptor yX1_bits.desc).map (fun d => d.parameters.length) = some 1 := by decide +kernel
set_option maxHeartbeats 4000000 in
set_option maxRecDepth 100000 in
theorem kX1_bits {l : Launch} {D : va_G} {cy : ClassId} {H : Heap} {q : Nat → Nat} {ff fm fw : Int32} {ak : Int64} {ta gh kd fa fb sx sy mb co : Nat → Int32} {N K S : Nat} {pl : Nat → Int32} (hP : va_P D vwCl (wM cy q (nI N) (nI K) (nI S) ff fm fw ak ta gh kd fa fb sx sy mb co) H) (k : Int32) (hN : N ≤ 12) (hKn : K ≤ 10) (hpl : plOk ta pl N) (hw : hpOk kd fa fb N K) : Met l yX1_bits wsX1_bits { frames := 3, cells := 0, slots := 0, locals := 67 } (pcK D cy H [.ref (q 0), .int k]) (QcRead (if 0 ≤ k ∧ k < nI K then hbX pl kd fa fb N (ix k) else -1)) 0 0 (fun _ => False) := by
  refine mV 2 (by decide) rfl (Nat.le_of_ble_eq_true rfl) ?_
  intro p e s m below meth c hx hb hml hr hlk hts hown hnm hK hH ls hl
  have hC := (⟨hx, hb, hml, hown, hts⟩ : CallFix p m c cX1_bits 2 s _ wsX1_bits RX1)
  have hl : lv_has ls 2 [(0, .ref (q 0)), (1, .int (k))] := hl
  refine lv_aload_n hx hb dX1_bits_0 rfl (lv_at hl 0 rfl) ?_
  refine lv_iload_n hx hb dX1_bits_1 rfl (lv_at hl 1 rfl) ?_
  refine cV (As := [.int (k)]) hC hK hP rfl rfl (kX1_isHeap hP k (by omega)) [] (cwV 1 hts gX1_bits_X1_isHeap rfl rfl rfl hdX1_isHeap ⟨Nat.le_of_ble_eq_true rfl, Nat.le_of_ble_eq_true rfl⟩) rfl hl.1 rfl (Nat.le_of_ble_eq_true rfl) dX1_bits_2 ⟨Nat.zero_le _, Nat.zero_le _⟩ ?_
  refine lv_if_eq (tgt := 16) hx hb dX1_bits_5 (by decide) (fun cz1 => ?_) (fun cz1 => ?_)
  · have cz1 := b2_0 cz1
    refine lv_iconst (v := (-1)) hx hb dX1_bits_16 (by decide) ?_
    exact rI hx hb hr hlk hH dX1_bits_17 (by rw [if_neg cz1])
  · have cz1 := b2_1 cz1
    obtain ⟨j, hj, ej⟩ := inN cz1 (by omega)
    subst ej
    refine lv_aload_n hx hb dX1_bits_8 rfl (lv_at hl 0 rfl) ?_
    refine lv_iload_n hx hb dX1_bits_9 rfl (lv_at hl 1 rfl) ?_
    refine cV (As := [.int (nI j)]) hC hK hP rfl rfl (kX1_bitsOf hP j hN hKn hpl hw hj) [] (cwV 1 hts gX1_bits_X1_bitsOf rfl rfl rfl hdX1_bitsOf ⟨Nat.le_of_ble_eq_true rfl, Nat.le_of_ble_eq_true rfl⟩) rfl hl.1 rfl (Nat.le_of_ble_eq_true rfl) dX1_bits_10 ⟨Nat.zero_le _, Nat.zero_le _⟩ ?_
    refine lv_goto (tgt := 17) hx hb dX1_bits_13 (by decide) ?_
    exact rI hx hb hr hlk hH dX1_bits_17 (by rw [if_pos cz1, ix_nI (by omega)])

set_option maxHeartbeats 4000000 in
set_option maxRecDepth 100000 in
theorem kX1_ones {l : Launch}  (x : Int32) (hx1 : sm x) : Met l yX1_ones wsX1_ones { frames := 0, cells := 0, slots := 0, locals := 0 } (fun v _ => v = ([.int x] : List Value).toArray) (QcRead (bcI x)) 0 0 (fun _ => False) := by
  refine mS 3 (by decide) rfl (Nat.le_of_ble_eq_true rfl) ?_
  intro p e s m below meth c hx hb hml hr hlk hts hown ls hl
  have hC := (⟨hx, hb, hml, hown, hts⟩ : CallFix p m c cX1_ones 3 s _ wsX1_ones RX1)
  have hl : lv_has ls 3 [(0, .int (x))] := hl
  obtain ⟨b0, hb0, eb⟩ := hx1
  subst eb
  refine lv_iconst (v := 0) hx hb dX1_ones_0 (by decide) ?_
  refine lv_istore_n (lv' := [(1, .int (0)), (0, .int (nI b0))]) hx hb dX1_ones_1 rfl hl (by decide) rfl (fun ls hl => ?_)
  refine lv_iload_n hx hb dX1_ones_2 rfl (lv_at hl 1 rfl) ?_
  refine lv_istore_n (lv' := [(2, .int (nI b0)), (1, .int (0)), (0, .int (nI b0))]) hx hb dX1_ones_3 rfl hl (by decide) rfl (fun ls hl => ?_)
  refine lpM (σ := Nat) 4 (fun b1 ls => (b1 < 4096 ∧ pcn b1 ≤ pcn b0) ∧ lv_has ls 3 [(1, .int (nI (pcn b0 - pcn b1))), (2, .int (nI b1))]) (fun z => z) ?_ (b0) ls ⟨⟨hb0, Nat.le_refl _⟩, by rw [Nat.sub_self]; exact lv_sub hl [1, 0] rfl⟩
  intro b1 ls hI ih_4
  obtain ⟨hb1, hl⟩ := hI
  obtain ⟨hb1, hb2⟩ := hb1
  refine lv_iload_n hx hb dX1_ones_4 rfl (lv_at hl 1 rfl) ?_
  refine lv_if_eq (tgt := 20) hx hb dX1_ones_5 (by decide) (fun cz1 => ?_) (fun cz1 => ?_)
  · have cz1 : b1 = 0 := (nI_eq (a := b1) (b := 0) (by omega) (by omega)).mp cz1
    refine lv_iload_n hx hb dX1_ones_20 rfl (lv_at hl 0 rfl) ?_
    exact rI hx hb hr hlk rfl dX1_ones_21 (by rw [show b1 = 0 from cz1, bc_pcn b0 hb0]; rfl)
  · have cz1 : ¬ b1 = 0 := fun h => cz1 ((nI_eq (a := b1) (b := 0) (by omega) (by omega)).mpr h)
    refine lv_iinc (v := nI ((pcn b0 - pcn b1) + 1)) (lv' := [(1, .int (nI ((pcn b0 - pcn b1) + 1))), (2, .int (nI b1))]) hx hb dX1_ones_8 hl (k := 0) rfl (nI_1 _) (by decide) rfl (fun ls hl => ?_)
    refine lv_iload_n hx hb dX1_ones_11 rfl (lv_at hl 1 rfl) ?_
    refine lv_iload_n hx hb dX1_ones_12 rfl (lv_at hl 1 rfl) ?_
    refine lv_iconst (v := 1) hx hb dX1_ones_13 (by decide) ?_
    refine lv_isub hx hb dX1_ones_14 ?_
    refine lv_iand hx hb dX1_ones_15 ?_
    refine tpI (y := nI (b1 &&& (b1 - 1))) (and_pred cz1) ?_
    refine lv_istore_n (lv' := [(2, .int (nI (b1 &&& (b1 - 1)))), (1, .int (nI ((pcn b0 - pcn b1) + 1)))]) hx hb dX1_ones_16 rfl hl (by decide) rfl (fun ls hl => ?_)
    refine lv_goto (tgt := 4) hx hb dX1_ones_17 (by decide) ?_
    exact ih_4 (b1 &&& (b1 - 1)) _ (and_pred_lt cz1) ⟨⟨Nat.lt_of_lt_of_le (and_pred_lt cz1) (by omega), by have := pcn_step b1 hb1 cz1; omega⟩, by rw [show pcn b0 - pcn (b1 &&& (b1 - 1)) = pcn b0 - pcn b1 + 1 by have := pcn_step b1 hb1 cz1; omega]; exact lv_sub hl [1, 0] rfl⟩

set_option maxHeartbeats 4000000 in
set_option maxRecDepth 100000 in
theorem kX1_size {l : Launch}  (x : Int32)  : Met l yX1_size wsX1_size { frames := 0, cells := 0, slots := 0, locals := 0 } (fun v _ => v = ([.int x] : List Value).toArray) (QcRead (absI x)) 0 0 (fun _ => False) := by
  refine mS 1 (by decide) rfl (Nat.le_of_ble_eq_true rfl) ?_
  intro p e s m below meth c hx hb hml hr hlk hts hown ls hl
  have hC := (⟨hx, hb, hml, hown, hts⟩ : CallFix p m c cX1_size 1 s _ wsX1_size RX1)
  have hl : lv_has ls 1 [(0, .int (x))] := hl
  refine lv_iload_n hx hb dX1_size_0 rfl (lv_at hl 0 rfl) ?_
  refine lv_if_ge (tgt := 9) hx hb dX1_size_1 (by decide) (fun cz1 => ?_) (fun cz1 => ?_)
  · refine lv_iload_n hx hb dX1_size_9 rfl (lv_at hl 0 rfl) ?_
    exact rI hx hb hr hlk rfl dX1_size_10 (by rw [absI, if_pos cz1])
  · refine lv_iload_n hx hb dX1_size_4 rfl (lv_at hl 0 rfl) ?_
    refine lv_ineg hx hb dX1_size_5 ?_
    refine lv_goto (tgt := 10) hx hb dX1_size_6 (by decide) ?_
    exact rI hx hb hr hlk rfl dX1_size_10 (by rw [absI, if_neg cz1, Int32.zero_sub])

set_option maxHeartbeats 4000000 in
set_option maxRecDepth 100000 in
theorem kX1_offOf {l : Launch}  (x : Int32) (y : Int32) (hx1 : sm x) (hy1 : sm y) : Met l yX1_offOf wsX1_offOf { frames := 1, cells := 0, slots := 0, locals := 22 } (fun v _ => v = ([.int x, .int y] : List Value).toArray) (QcRead (absI (leanI y x))) 0 0 (fun _ => False) := by
  refine mS 2 (by decide) rfl (Nat.le_of_ble_eq_true rfl) ?_
  intro p e s m below meth c hx hb hml hr hlk hts hown ls hl
  have hC := (⟨hx, hb, hml, hown, hts⟩ : CallFix p m c cX1_offOf 2 s _ wsX1_offOf RX1)
  have hl : lv_has ls 2 [(0, .int (x)), (1, .int (y))] := hl
  refine lv_iconst (v := 2) hx hb dX1_offOf_0 (by decide) ?_
  refine lv_iload_n hx hb dX1_offOf_1 rfl (lv_at hl 0 rfl) ?_
  refine lv_iload_n hx hb dX1_offOf_2 rfl (lv_at hl 1 rfl) ?_
  refine lv_iand hx hb dX1_offOf_3 ?_
  refine cS (As := [.int (x &&& y)]) hC (kX1_ones (x &&& y) (sm_and hy1 hx1)) [.int (2)] (va_cwS 1 hts gX1_offOf_X1_ones rfl rfl rfl (by decide +kernel) ⟨Nat.le_of_ble_eq_true rfl, Nat.le_of_ble_eq_true rfl⟩) rfl hl.1 rfl (Nat.le_of_ble_eq_true rfl) dX1_offOf_4 ⟨Nat.zero_le _, Nat.zero_le _⟩ ?_
  refine lv_imul hx hb dX1_offOf_7 ?_
  refine lv_iload_n hx hb dX1_offOf_8 rfl (lv_at hl 1 rfl) ?_
  refine cS (As := [.int (y)]) hC (kX1_ones y hy1) [.int ((2 : Int32) * (bcI (x &&& y)))] (va_cwS 1 hts gX1_offOf_X1_ones rfl rfl rfl (by decide +kernel) ⟨Nat.le_of_ble_eq_true rfl, Nat.le_of_ble_eq_true rfl⟩) rfl hl.1 rfl (Nat.le_of_ble_eq_true rfl) dX1_offOf_9 ⟨Nat.zero_le _, Nat.zero_le _⟩ ?_
  refine lv_isub hx hb dX1_offOf_12 ?_
  refine cS (As := [.int (((2 : Int32) * (bcI (x &&& y))) - (bcI y))]) hC (kX1_size (((2 : Int32) * (bcI (x &&& y))) - (bcI y)) ) [] (va_cwS 1 hts gX1_offOf_X1_size rfl rfl rfl (by decide +kernel) ⟨Nat.le_of_ble_eq_true rfl, Nat.le_of_ble_eq_true rfl⟩) rfl hl.1 rfl (Nat.le_of_ble_eq_true rfl) dX1_offOf_13 ⟨Nat.zero_le _, Nat.zero_le _⟩ ?_
  exact rI hx hb hr hlk rfl dX1_offOf_16 (by rw [leanI, Int32.and_comm])

theorem hdX1_off : yX1_off.cls = RX1 ∧ yX1_off.cls ≠ "java/lang/invoke/MethodHandle" ∧ yX1_off.cls ≠ "java/lang/invoke/VarHandle" ∧ (parseMethodDescriptor yX1_off.desc).map (fun d => d.parameters.length) = some 2 := by decide +kernel
set_option maxHeartbeats 4000000 in
set_option maxRecDepth 100000 in
theorem kX1_off {l : Launch} {D : va_G} {cy : ClassId} {H : Heap} {q : Nat → Nat} {ff fm fw : Int32} {ak : Int64} {ta gh kd fa fb sx sy mb co : Nat → Int32} {N K S : Nat} {pl : Nat → Int32} (hP : va_P D vwCl (wM cy q (nI N) (nI K) (nI S) ff fm fw ak ta gh kd fa fb sx sy mb co) H) (k : Int32) (h : Int32) (hN : N ≤ 12) (hKn : K ≤ 10) (hpl : plOk ta pl N) (hw : hpOk kd fa fb N K) : Met l yX1_off wsX1_off { frames := 3, cells := 0, slots := 0, locals := 67 } (pcK D cy H [.ref (q 0), .int k, .int h]) (QcRead (if (0 ≤ k ∧ k < nI (2 ^ N)) ∧ (0 ≤ h ∧ h < nI K) then absI (leanI (hbX pl kd fa fb N (ix h)) k) else -1)) 0 0 (fun _ => False) := by
  refine mV 3 (by decide) rfl (Nat.le_of_ble_eq_true rfl) ?_
  intro p e s m below meth c hx hb hml hr hlk hts hown hnm hK hH ls hl
  have hC := (⟨hx, hb, hml, hown, hts⟩ : CallFix p m c cX1_off 3 s _ wsX1_off RX1)
  have hl : lv_has ls 3 [(0, .ref (q 0)), (1, .int (k)), (2, .int (h))] := hl
  refine lv_aload_n hx hb dX1_off_0 rfl (lv_at hl 0 rfl) ?_
  refine lv_iload_n hx hb dX1_off_1 rfl (lv_at hl 1 rfl) ?_
  refine cV (As := [.int (k)]) hC hK hP rfl rfl (kX1_isColouring hP k (by omega)) [] (cwV 1 hts gX1_off_X1_isColouring rfl rfl rfl hdX1_isColouring ⟨Nat.le_of_ble_eq_true rfl, Nat.le_of_ble_eq_true rfl⟩) rfl hl.1 rfl (Nat.le_of_ble_eq_true rfl) dX1_off_2 ⟨Nat.zero_le _, Nat.zero_le _⟩ ?_
  refine lv_if_eq (tgt := 28) hx hb dX1_off_5 (by decide) (fun cz1 => ?_) (fun cz1 => ?_)
  · have cz1 := b2_0 cz1
    refine lv_iconst (v := (-1)) hx hb dX1_off_28 (by decide) ?_
    exact rI hx hb hr hlk hH dX1_off_29 (by rw [if_neg (fun h => cz1 h.1)])
  · have cz1 := b2_1 cz1
    refine lv_aload_n hx hb dX1_off_8 rfl (lv_at hl 0 rfl) ?_
    refine lv_iload_n hx hb dX1_off_9 rfl (lv_at hl 2 rfl) ?_
    refine cV (As := [.int (h)]) hC hK hP rfl rfl (kX1_isHeap hP h (by omega)) [] (cwV 1 hts gX1_off_X1_isHeap rfl rfl rfl hdX1_isHeap ⟨Nat.le_of_ble_eq_true rfl, Nat.le_of_ble_eq_true rfl⟩) rfl hl.1 rfl (Nat.le_of_ble_eq_true rfl) dX1_off_10 ⟨Nat.zero_le _, Nat.zero_le _⟩ ?_
    refine lv_if_eq (tgt := 28) hx hb dX1_off_13 (by decide) (fun cz2 => ?_) (fun cz2 => ?_)
    · have cz2 := b2_0 cz2
      refine lv_iconst (v := (-1)) hx hb dX1_off_28 (by decide) ?_
      exact rI hx hb hr hlk hH dX1_off_29 (by rw [if_neg (fun h => cz2 h.2)])
    · have cz2 := b2_1 cz2
      obtain ⟨j, hj, ej⟩ := inN cz2 (by omega)
      subst ej
      refine lv_iload_n hx hb dX1_off_16 rfl (lv_at hl 1 rfl) ?_
      refine lv_aload_n hx hb dX1_off_17 rfl (lv_at hl 0 rfl) ?_
      refine lv_iload_n hx hb dX1_off_18 rfl (lv_at hl 2 rfl) ?_
      refine cV (As := [.int (nI j)]) hC hK hP rfl rfl (kX1_bitsOf hP j hN hKn hpl hw hj) [.int (k)] (cwV 1 hts gX1_off_X1_bitsOf rfl rfl rfl hdX1_bitsOf ⟨Nat.le_of_ble_eq_true rfl, Nat.le_of_ble_eq_true rfl⟩) rfl hl.1 rfl (Nat.le_of_ble_eq_true rfl) dX1_off_19 ⟨Nat.zero_le _, Nat.zero_le _⟩ ?_
      refine cS (As := [.int (k), .int (hbX pl kd fa fb N j)]) hC (kX1_offOf k (hbX pl kd fa fb N j) (sm_in cz1 (p12 hN)) (hbX_sm hN)) [] (va_cwS 2 hts gX1_off_X1_offOf rfl rfl rfl (by decide +kernel) ⟨Nat.le_of_ble_eq_true rfl, Nat.le_of_ble_eq_true rfl⟩) rfl hl.1 rfl (Nat.le_of_ble_eq_true rfl) dX1_off_22 ⟨Nat.zero_le _, Nat.zero_le _⟩ ?_
      refine lv_goto (tgt := 29) hx hb dX1_off_25 (by decide) ?_
      exact rI hx hb hr hlk hH dX1_off_29 (by rw [if_pos ⟨cz1, cz2⟩, ix_nI (by omega)])

theorem hdX1_worstOf : yX1_worstOf.cls = RX1 ∧ yX1_worstOf.cls ≠ "java/lang/invoke/MethodHandle" ∧ yX1_worstOf.cls ≠ "java/lang/invoke/VarHandle" ∧ (parseMethodDescriptor yX1_worstOf.desc).map (fun d => d.parameters.length) = some 1 := by decide +kernel
set_option maxHeartbeats 4000000 in
set_option maxRecDepth 100000 in
theorem kX1_worstOf {l : Launch} {D : va_G} {cy : ClassId} {H : Heap} {q : Nat → Nat} {ff fm fw : Int32} {ak : Int64} {ta gh kd fa fb sx sy mb co : Nat → Int32} {N K S : Nat}  (hP : va_P D vwCl (wM cy q (nI N) (nI K) (nI S) ff fm fw ak ta gh kd fa fb sx sy mb co) H) (k : Int32) (hKn : K ≤ 10) (hk1 : sm k) (hmb : ∀ h, h < K → sm (mb h)) : Met l yX1_worstOf wsX1_worstOf { frames := 2, cells := 0, slots := 0, locals := 43 } (pcK D cy H [.ref (q 0), .int k]) (QcRead (woF mb k K)) 0 0 (fun _ => False) := by
  refine mV 5 (by decide) rfl (Nat.le_of_ble_eq_true rfl) ?_
  intro p e s m below meth c hx hb hml hr hlk hts hown hnm hK hH ls hl
  have hC := (⟨hx, hb, hml, hown, hts⟩ : CallFix p m c cX1_worstOf 5 s _ wsX1_worstOf RX1)
  have hin : ∀ w ∈ wsX10, w ∈ wsX1_worstOf := by decide +kernel
  have L35 : Cond.fieldLink RX1 35 "TwoColoursModel" "heapBits" "[I" ∈ wsX1_worstOf := by decide +kernel
  have L41 : Cond.fieldLink RX1 41 "TwoColoursModel" "heaps" "I" ∈ wsX1_worstOf := by decide +kernel
  have hl : lv_has ls 5 [(0, .ref (q 0)), (1, .int (k))] := hl
  refine lv_iconst (v := 0) hx hb dX1_worstOf_0 (by decide) ?_
  refine lv_istore_n (lv' := [(2, .int (0)), (0, .ref (q 0)), (1, .int (k))]) hx hb dX1_worstOf_1 rfl hl (by decide) rfl (fun ls hl => ?_)
  refine lv_iconst (v := 0) hx hb dX1_worstOf_2 (by decide) ?_
  refine lv_istore_n (lv' := [(3, .int (0)), (2, .int (0)), (0, .ref (q 0)), (1, .int (k))]) hx hb dX1_worstOf_3 rfl hl (by decide) rfl (fun ls hl => ?_)
  refine lpP 4 (fun i ls => lv_has ls 5 [(0, .ref (q 0)), (1, .int (k)), (2, .int (woF mb k i)), (3, .int (nI i))]) (K) ?_ (0) ls (by omega) (lv_sub hl [2, 3, 1, 0] rfl)
  intro i ls hi hl ih_4
  refine lv_iload_n hx hb dX1_worstOf_4 rfl (lv_at hl 3 rfl) ?_
  refine lv_aload_n hx hb dX1_worstOf_5 rfl (lv_at hl 0 rfl) ?_
  refine gM_heaps hx hb hts hin hown hK hP L41 dX1_worstOf_6 ?_
  refine lv_icmp_ge (tgt := 43) hx hb dX1_worstOf_9 (by decide) (fun cz1 => ?_) (fun cz1 => ?_)
  · have cz1 : K ≤ i := (nI_leI (a := K) (b := i) (by omega) (by omega)).mp cz1
    refine lv_iload_n hx hb dX1_worstOf_43 rfl (lv_at hl 2 rfl) ?_
    exact rI hx hb hr hlk hH dX1_worstOf_44 (by rw [show i = K by omega])
  · have cz1 : ¬ K ≤ i := fun h => cz1 ((nI_leI (a := K) (b := i) (by omega) (by omega)).mpr h)
    refine lv_iload_n hx hb dX1_worstOf_12 rfl (lv_at hl 1 rfl) ?_
    refine lv_aload_n hx hb dX1_worstOf_13 rfl (lv_at hl 0 rfl) ?_
    refine gM_heapBits hx hb hts hin hown hK hP L35 dX1_worstOf_14 ?_
    refine lv_iload_n hx hb dX1_worstOf_17 rfl (lv_at hl 3 rfl) ?_
    refine ldM_heapBits (j := i) hx hb hK hP rfl (by omega) dX1_worstOf_18 ?_
    refine cS (As := [.int (k), .int (mb i)]) hC (kX1_offOf k (mb i) hk1 (hmb i (by omega))) [] (va_cwS 2 hts gX1_worstOf_X1_offOf rfl rfl rfl (by decide +kernel) ⟨Nat.le_of_ble_eq_true rfl, Nat.le_of_ble_eq_true rfl⟩) rfl hl.1 rfl (Nat.le_of_ble_eq_true rfl) dX1_worstOf_19 ⟨Nat.zero_le _, Nat.zero_le _⟩ ?_
    refine lv_istore (lv' := [(4, .int (absI (leanI (mb i) k))), (0, .ref (q 0)), (1, .int (k)), (2, .int (woF mb k i)), (3, .int (nI i))]) hx hb dX1_worstOf_22 hl (by decide) rfl (fun ls hl => ?_)
    refine lv_iload hx hb dX1_worstOf_24 (lv_at hl 0 rfl) ?_
    refine lv_iload_n hx hb dX1_worstOf_26 rfl (lv_at hl 3 rfl) ?_
    refine lv_icmp_le (tgt := 35) hx hb dX1_worstOf_27 (by decide) (fun cz2 => ?_) (fun cz2 => ?_)
    · refine lv_iload_n hx hb dX1_worstOf_35 rfl (lv_at hl 3 rfl) ?_
      refine tpI (y := maxI (woF mb k i) (absI (leanI (mb i) k))) (by rw [maxI, if_neg (Int32.not_lt.mpr cz2)]) ?_
      refine lv_istore_n (lv' := [(2, .int (maxI (woF mb k i) (absI (leanI (mb i) k)))), (4, .int (absI (leanI (mb i) k))), (0, .ref (q 0)), (1, .int (k)), (3, .int (nI i))]) hx hb dX1_worstOf_36 rfl hl (by decide) rfl (fun ls hl => ?_)
      refine lv_iinc (v := nI (i + 1)) (lv' := [(3, .int (nI (i + 1))), (2, .int (maxI (woF mb k i) (absI (leanI (mb i) k)))), (4, .int (absI (leanI (mb i) k))), (0, .ref (q 0)), (1, .int (k))]) hx hb dX1_worstOf_37 hl (k := 4) rfl (nI_1 _) (by decide) rfl (fun ls hl => ?_)
      refine lv_goto (tgt := 4) hx hb dX1_worstOf_40 (by decide) ?_
      exact ih_4 _ (by omega) (lv_sub hl [3, 4, 1, 0] rfl)
    · refine lv_iload hx hb dX1_worstOf_30 (lv_at hl 0 rfl) ?_
      refine lv_goto (tgt := 36) hx hb dX1_worstOf_32 (by decide) ?_
      refine tpI (y := maxI (woF mb k i) (absI (leanI (mb i) k))) (by rw [maxI, if_pos (Int32.not_le.mp cz2)]) ?_
      refine lv_istore_n (lv' := [(2, .int (maxI (woF mb k i) (absI (leanI (mb i) k)))), (4, .int (absI (leanI (mb i) k))), (0, .ref (q 0)), (1, .int (k)), (3, .int (nI i))]) hx hb dX1_worstOf_36 rfl hl (by decide) rfl (fun ls hl => ?_)
      refine lv_iinc (v := nI (i + 1)) (lv' := [(3, .int (nI (i + 1))), (2, .int (maxI (woF mb k i) (absI (leanI (mb i) k)))), (4, .int (absI (leanI (mb i) k))), (0, .ref (q 0)), (1, .int (k))]) hx hb dX1_worstOf_37 hl (k := 4) rfl (nI_1 _) (by decide) rfl (fun ls hl => ?_)
      refine lv_goto (tgt := 4) hx hb dX1_worstOf_40 (by decide) ?_
      exact ih_4 _ (by omega) (lv_sub hl [3, 4, 1, 0] rfl)

theorem hdX1_squaresOf : yX1_squaresOf.cls = RX1 ∧ yX1_squaresOf.cls ≠ "java/lang/invoke/MethodHandle" ∧ yX1_squaresOf.cls ≠ "java/lang/invoke/VarHandle" ∧ (parseMethodDescriptor yX1_squaresOf.desc).map (fun d => d.parameters.length) = some 1 := by decide +kernel
set_option maxHeartbeats 4000000 in
set_option maxRecDepth 100000 in
theorem kX1_squaresOf {l : Launch} {D : va_G} {cy : ClassId} {H : Heap} {q : Nat → Nat} {ff fm fw : Int32} {ak : Int64} {ta gh kd fa fb sx sy mb co : Nat → Int32} {N K S : Nat}  (hP : va_P D vwCl (wM cy q (nI N) (nI K) (nI S) ff fm fw ak ta gh kd fa fb sx sy mb co) H) (k : Int32) (hKn : K ≤ 10) (hk1 : sm k) (hmb : ∀ h, h < K → sm (mb h)) : Met l yX1_squaresOf wsX1_squaresOf { frames := 2, cells := 0, slots := 0, locals := 43 } (pcK D cy H [.ref (q 0), .int k]) (QcRead (sqF mb k K)) 0 0 (fun _ => False) := by
  refine mV 5 (by decide) rfl (Nat.le_of_ble_eq_true rfl) ?_
  intro p e s m below meth c hx hb hml hr hlk hts hown hnm hK hH ls hl
  have hC := (⟨hx, hb, hml, hown, hts⟩ : CallFix p m c cX1_squaresOf 5 s _ wsX1_squaresOf RX1)
  have hin : ∀ w ∈ wsX10, w ∈ wsX1_squaresOf := by decide +kernel
  have L35 : Cond.fieldLink RX1 35 "TwoColoursModel" "heapBits" "[I" ∈ wsX1_squaresOf := by decide +kernel
  have L41 : Cond.fieldLink RX1 41 "TwoColoursModel" "heaps" "I" ∈ wsX1_squaresOf := by decide +kernel
  have hl : lv_has ls 5 [(0, .ref (q 0)), (1, .int (k))] := hl
  refine lv_iconst (v := 0) hx hb dX1_squaresOf_0 (by decide) ?_
  refine lv_istore_n (lv' := [(2, .int (0)), (0, .ref (q 0)), (1, .int (k))]) hx hb dX1_squaresOf_1 rfl hl (by decide) rfl (fun ls hl => ?_)
  refine lv_iconst (v := 0) hx hb dX1_squaresOf_2 (by decide) ?_
  refine lv_istore_n (lv' := [(3, .int (0)), (2, .int (0)), (0, .ref (q 0)), (1, .int (k))]) hx hb dX1_squaresOf_3 rfl hl (by decide) rfl (fun ls hl => ?_)
  refine lpP 4 (fun i ls => lv_has ls 5 [(0, .ref (q 0)), (1, .int (k)), (2, .int (sqF mb k i)), (3, .int (nI i))]) (K) ?_ (0) ls (by omega) (lv_sub hl [2, 3, 1, 0] rfl)
  intro i ls hi hl ih_4
  refine lv_iload_n hx hb dX1_squaresOf_4 rfl (lv_at hl 3 rfl) ?_
  refine lv_aload_n hx hb dX1_squaresOf_5 rfl (lv_at hl 0 rfl) ?_
  refine gM_heaps hx hb hts hin hown hK hP L41 dX1_squaresOf_6 ?_
  refine lv_icmp_ge (tgt := 38) hx hb dX1_squaresOf_9 (by decide) (fun cz1 => ?_) (fun cz1 => ?_)
  · have cz1 : K ≤ i := (nI_leI (a := K) (b := i) (by omega) (by omega)).mp cz1
    refine lv_iload_n hx hb dX1_squaresOf_38 rfl (lv_at hl 2 rfl) ?_
    exact rI hx hb hr hlk hH dX1_squaresOf_39 (by rw [show i = K by omega])
  · have cz1 : ¬ K ≤ i := fun h => cz1 ((nI_leI (a := K) (b := i) (by omega) (by omega)).mpr h)
    refine lv_iload_n hx hb dX1_squaresOf_12 rfl (lv_at hl 1 rfl) ?_
    refine lv_aload_n hx hb dX1_squaresOf_13 rfl (lv_at hl 0 rfl) ?_
    refine gM_heapBits hx hb hts hin hown hK hP L35 dX1_squaresOf_14 ?_
    refine lv_iload_n hx hb dX1_squaresOf_17 rfl (lv_at hl 3 rfl) ?_
    refine ldM_heapBits (j := i) hx hb hK hP rfl (by omega) dX1_squaresOf_18 ?_
    refine cS (As := [.int (k), .int (mb i)]) hC (kX1_offOf k (mb i) hk1 (hmb i (by omega))) [] (va_cwS 2 hts gX1_squaresOf_X1_offOf rfl rfl rfl (by decide +kernel) ⟨Nat.le_of_ble_eq_true rfl, Nat.le_of_ble_eq_true rfl⟩) rfl hl.1 rfl (Nat.le_of_ble_eq_true rfl) dX1_squaresOf_19 ⟨Nat.zero_le _, Nat.zero_le _⟩ ?_
    refine lv_istore (lv' := [(4, .int (absI (leanI (mb i) k))), (0, .ref (q 0)), (1, .int (k)), (2, .int (sqF mb k i)), (3, .int (nI i))]) hx hb dX1_squaresOf_22 hl (by decide) rfl (fun ls hl => ?_)
    refine lv_iload_n hx hb dX1_squaresOf_24 rfl (lv_at hl 3 rfl) ?_
    refine lv_iload hx hb dX1_squaresOf_25 (lv_at hl 0 rfl) ?_
    refine lv_iload hx hb dX1_squaresOf_27 (lv_at hl 0 rfl) ?_
    refine lv_imul hx hb dX1_squaresOf_29 ?_
    refine lv_iadd hx hb dX1_squaresOf_30 ?_
    refine lv_istore_n (lv' := [(2, .int ((sqF mb k i) + ((absI (leanI (mb i) k)) * (absI (leanI (mb i) k))))), (4, .int (absI (leanI (mb i) k))), (0, .ref (q 0)), (1, .int (k)), (3, .int (nI i))]) hx hb dX1_squaresOf_31 rfl hl (by decide) rfl (fun ls hl => ?_)
    refine lv_iinc (v := nI (i + 1)) (lv' := [(3, .int (nI (i + 1))), (2, .int ((sqF mb k i) + ((absI (leanI (mb i) k)) * (absI (leanI (mb i) k))))), (4, .int (absI (leanI (mb i) k))), (0, .ref (q 0)), (1, .int (k))]) hx hb dX1_squaresOf_32 hl (k := 4) rfl (nI_1 _) (by decide) rfl (fun ls hl => ?_)
    refine lv_goto (tgt := 4) hx hb dX1_squaresOf_35 (by decide) ?_
    exact ih_4 _ (by omega) (lv_sub hl [3, 4, 1, 0] rfl)

theorem hdX1_times : yX1_times.cls = RX1 ∧ yX1_times.cls ≠ "java/lang/invoke/MethodHandle" ∧ yX1_times.cls ≠ "java/lang/invoke/VarHandle" ∧ (parseMethodDescriptor yX1_times.desc).map (fun d => d.parameters.length) = some 0 := by decide +kernel
set_option maxHeartbeats 4000000 in
set_option maxRecDepth 100000 in
theorem kX1_times {l : Launch} {D : va_G} {cy : ClassId} {H : Heap} {q : Nat → Nat} {ff fm fw : Int32} {ak : Int64} {ta gh kd fa fb sx sy mb co : Nat → Int32} {N K S : Nat} {pl : Nat → Int32} (hP : va_P D vwCl (wM cy q (nI N) (nI K) (nI S) ff fm fw ak ta gh kd fa fb sx sy mb co) H)  (hN : N ≤ 12) (hKn : K ≤ 10) (hpl : plOk ta pl N) (hw : hpOk kd fa fb N K) : Met l yX1_times wsX1_times { frames := 2, cells := 0, slots := 0, locals := 44 } (pcK D cy H [.ref (q 0)]) (QcRead (tiF (hbX pl kd fa fb N) K N)) 0 0 (fun _ => False) := by
  refine mV 5 (by decide) rfl (Nat.le_of_ble_eq_true rfl) ?_
  intro p e s m below meth c hx hb hml hr hlk hts hown hnm hK hH ls hl
  have hC := (⟨hx, hb, hml, hown, hts⟩ : CallFix p m c cX1_times 5 s _ wsX1_times RX1)
  have hin : ∀ w ∈ wsX10, w ∈ wsX1_times := by decide +kernel
  have L7 : Cond.fieldLink RX1 7 "TwoColoursModel" "n" "I" ∈ wsX1_times := by decide +kernel
  have L41 : Cond.fieldLink RX1 41 "TwoColoursModel" "heaps" "I" ∈ wsX1_times := by decide +kernel
  have hl : lv_has ls 5 [(0, .ref (q 0))] := hl
  refine lv_iconst (v := 0) hx hb dX1_times_0 (by decide) ?_
  refine lv_istore_n (lv' := [(1, .int (0)), (0, .ref (q 0))]) hx hb dX1_times_1 rfl hl (by decide) rfl (fun ls hl => ?_)
  refine lv_iconst (v := 0) hx hb dX1_times_2 (by decide) ?_
  refine lv_istore_n (lv' := [(2, .int (0)), (1, .int (0)), (0, .ref (q 0))]) hx hb dX1_times_3 rfl hl (by decide) rfl (fun ls hl => ?_)
  refine lpP 4 (fun i ls => lv_has ls 5 [(0, .ref (q 0)), (1, .int (tiF (hbX pl kd fa fb N) K i)), (2, .int (nI i))]) (N) ?_ (0) ls (by omega) (lv_sub hl [2, 1, 0] rfl)
  intro i ls hi hl ih_4
  refine lv_iload_n hx hb dX1_times_4 rfl (lv_at hl 2 rfl) ?_
  refine lv_aload_n hx hb dX1_times_5 rfl (lv_at hl 0 rfl) ?_
  refine gM_n hx hb hts hin hown hK hP L7 dX1_times_6 ?_
  refine lv_icmp_ge (tgt := 67) hx hb dX1_times_9 (by decide) (fun cz1 => ?_) (fun cz1 => ?_)
  · have cz1 : N ≤ i := (nI_leI (a := N) (b := i) (by omega) (by omega)).mp cz1
    refine lv_iload_n hx hb dX1_times_67 rfl (lv_at hl 1 rfl) ?_
    exact rI hx hb hr hlk hH dX1_times_68 (by rw [show i = N by omega])
  · have cz1 : ¬ N ≤ i := fun h => cz1 ((nI_leI (a := N) (b := i) (by omega) (by omega)).mpr h)
    refine lv_iconst (v := 0) hx hb dX1_times_12 (by decide) ?_
    refine lv_istore_n (lv' := [(3, .int (0)), (0, .ref (q 0)), (1, .int (tiF (hbX pl kd fa fb N) K i)), (2, .int (nI i))]) hx hb dX1_times_13 rfl hl (by decide) rfl (fun ls hl => ?_)
    refine lv_iconst (v := 0) hx hb dX1_times_14 (by decide) ?_
    refine lv_istore (lv' := [(4, .int (0)), (3, .int (0)), (0, .ref (q 0)), (1, .int (tiF (hbX pl kd fa fb N) K i)), (2, .int (nI i))]) hx hb dX1_times_15 hl (by decide) rfl (fun ls hl => ?_)
    refine lpP 17 (fun j ls => lv_has ls 5 [(0, .ref (q 0)), (1, .int (tiF (hbX pl kd fa fb N) K i)), (2, .int (nI i)), (3, .int (tmF (hbX pl kd fa fb N) (nI i) j)), (4, .int (nI j))]) (K) ?_ (0) ls (by omega) (lv_sub hl [2, 3, 4, 1, 0] rfl)
    intro j ls hj hl ih_17
    refine lv_iload hx hb dX1_times_17 (lv_at hl 4 rfl) ?_
    refine lv_aload_n hx hb dX1_times_19 rfl (lv_at hl 0 rfl) ?_
    refine gM_heaps hx hb hts hin hown hK hP L41 dX1_times_20 ?_
    refine lv_icmp_ge (tgt := 50) hx hb dX1_times_23 (by decide) (fun cz2 => ?_) (fun cz2 => ?_)
    · have cz2 : K ≤ j := (nI_leI (a := K) (b := j) (by omega) (by omega)).mp cz2
      have ej : K = j := by omega
      subst ej
      refine lv_iload_n hx hb dX1_times_50 rfl (lv_at hl 3 rfl) ?_
      refine lv_iload_n hx hb dX1_times_51 rfl (lv_at hl 1 rfl) ?_
      refine lv_icmp_le (tgt := 59) hx hb dX1_times_52 (by decide) (fun cz3 => ?_) (fun cz3 => ?_)
      · refine lv_iload_n hx hb dX1_times_59 rfl (lv_at hl 1 rfl) ?_
        refine tpI (y := maxI (tiF (hbX pl kd fa fb N) K i) (tmF (hbX pl kd fa fb N) (nI i) K)) (by rw [maxI, if_neg (Int32.not_lt.mpr cz3)]) ?_
        refine lv_istore_n (lv' := [(1, .int (maxI (tiF (hbX pl kd fa fb N) K i) (tmF (hbX pl kd fa fb N) (nI i) K))), (0, .ref (q 0)), (2, .int (nI i)), (3, .int (tmF (hbX pl kd fa fb N) (nI i) K)), (4, .int (nI K))]) hx hb dX1_times_60 rfl hl (by decide) rfl (fun ls hl => ?_)
        refine lv_iinc (v := nI (i + 1)) (lv' := [(2, .int (nI (i + 1))), (1, .int (maxI (tiF (hbX pl kd fa fb N) K i) (tmF (hbX pl kd fa fb N) (nI i) K))), (0, .ref (q 0)), (3, .int (tmF (hbX pl kd fa fb N) (nI i) K)), (4, .int (nI K))]) hx hb dX1_times_61 hl (k := 2) rfl (nI_1 _) (by decide) rfl (fun ls hl => ?_)
        refine lv_goto (tgt := 4) hx hb dX1_times_64 (by decide) ?_
        exact ih_4 _ (by omega) (lv_sub hl [2, 1, 0] rfl)
      · refine lv_iload_n hx hb dX1_times_55 rfl (lv_at hl 3 rfl) ?_
        refine lv_goto (tgt := 60) hx hb dX1_times_56 (by decide) ?_
        refine tpI (y := maxI (tiF (hbX pl kd fa fb N) K i) (tmF (hbX pl kd fa fb N) (nI i) K)) (by rw [maxI, if_pos (Int32.not_le.mp cz3)]) ?_
        refine lv_istore_n (lv' := [(1, .int (maxI (tiF (hbX pl kd fa fb N) K i) (tmF (hbX pl kd fa fb N) (nI i) K))), (0, .ref (q 0)), (2, .int (nI i)), (3, .int (tmF (hbX pl kd fa fb N) (nI i) K)), (4, .int (nI K))]) hx hb dX1_times_60 rfl hl (by decide) rfl (fun ls hl => ?_)
        refine lv_iinc (v := nI (i + 1)) (lv' := [(2, .int (nI (i + 1))), (1, .int (maxI (tiF (hbX pl kd fa fb N) K i) (tmF (hbX pl kd fa fb N) (nI i) K))), (0, .ref (q 0)), (3, .int (tmF (hbX pl kd fa fb N) (nI i) K)), (4, .int (nI K))]) hx hb dX1_times_61 hl (k := 2) rfl (nI_1 _) (by decide) rfl (fun ls hl => ?_)
        refine lv_goto (tgt := 4) hx hb dX1_times_64 (by decide) ?_
        exact ih_4 _ (by omega) (lv_sub hl [2, 1, 0] rfl)
    · have cz2 : ¬ K ≤ j := fun h => cz2 ((nI_leI (a := K) (b := j) (by omega) (by omega)).mpr h)
      refine lv_iload_n hx hb dX1_times_26 rfl (lv_at hl 3 rfl) ?_
      refine lv_aload_n hx hb dX1_times_27 rfl (lv_at hl 0 rfl) ?_
      refine lv_iload hx hb dX1_times_28 (lv_at hl 4 rfl) ?_
      refine lv_iload_n hx hb dX1_times_30 rfl (lv_at hl 2 rfl) ?_
      refine cV (As := [.int (nI j), .int (nI i)]) hC hK hP rfl rfl (kX1_holds hP j i hN hKn hpl hw (by omega) (by omega)) [.int (tmF (hbX pl kd fa fb N) (nI i) j)] (cwV 2 hts gX1_times_X1_holds rfl rfl rfl hdX1_holds ⟨Nat.le_of_ble_eq_true rfl, Nat.le_of_ble_eq_true rfl⟩) rfl hl.1 rfl (Nat.le_of_ble_eq_true rfl) dX1_times_31 ⟨Nat.zero_le _, Nat.zero_le _⟩ ?_
      refine lv_if_eq (tgt := 41) hx hb dX1_times_34 (by decide) (fun cz4 => ?_) (fun cz4 => ?_)
      · have cz4 := b2_0 cz4
        refine lv_iconst (v := 0) hx hb dX1_times_41 (by decide) ?_
        refine tpI (y := bitI (hbX pl kd fa fb N j) (nI i)) (hbX_f hN (by omega) (by assumption)) ?_
        refine lv_iadd hx hb dX1_times_42 ?_
        refine lv_istore_n (lv' := [(3, .int ((tmF (hbX pl kd fa fb N) (nI i) j) + (bitI (hbX pl kd fa fb N j) (nI i)))), (0, .ref (q 0)), (1, .int (tiF (hbX pl kd fa fb N) K i)), (2, .int (nI i)), (4, .int (nI j))]) hx hb dX1_times_43 rfl hl (by decide) rfl (fun ls hl => ?_)
        refine lv_iinc (v := nI (j + 1)) (lv' := [(4, .int (nI (j + 1))), (3, .int ((tmF (hbX pl kd fa fb N) (nI i) j) + (bitI (hbX pl kd fa fb N j) (nI i)))), (0, .ref (q 0)), (1, .int (tiF (hbX pl kd fa fb N) K i)), (2, .int (nI i))]) hx hb dX1_times_44 hl (k := 4) rfl (nI_1 _) (by decide) rfl (fun ls hl => ?_)
        refine lv_goto (tgt := 17) hx hb dX1_times_47 (by decide) ?_
        exact ih_17 _ (by omega) (lv_sub hl [2, 3, 4, 1, 0] rfl)
      · have cz4 := b2_1 cz4
        refine lv_iconst (v := 1) hx hb dX1_times_37 (by decide) ?_
        refine lv_goto (tgt := 42) hx hb dX1_times_38 (by decide) ?_
        refine tpI (y := bitI (hbX pl kd fa fb N j) (nI i)) (hbX_t hN (by omega) (by assumption)) ?_
        refine lv_iadd hx hb dX1_times_42 ?_
        refine lv_istore_n (lv' := [(3, .int ((tmF (hbX pl kd fa fb N) (nI i) j) + (bitI (hbX pl kd fa fb N j) (nI i)))), (0, .ref (q 0)), (1, .int (tiF (hbX pl kd fa fb N) K i)), (2, .int (nI i)), (4, .int (nI j))]) hx hb dX1_times_43 rfl hl (by decide) rfl (fun ls hl => ?_)
        refine lv_iinc (v := nI (j + 1)) (lv' := [(4, .int (nI (j + 1))), (3, .int ((tmF (hbX pl kd fa fb N) (nI i) j) + (bitI (hbX pl kd fa fb N j) (nI i)))), (0, .ref (q 0)), (1, .int (tiF (hbX pl kd fa fb N) K i)), (2, .int (nI i))]) hx hb dX1_times_44 hl (k := 4) rfl (nI_1 _) (by decide) rfl (fun ls hl => ?_)
        refine lv_goto (tgt := 17) hx hb dX1_times_47 (by decide) ?_
        exact ih_17 _ (by omega) (lv_sub hl [2, 3, 4, 1, 0] rfl)

theorem hdX1_turns : yX1_turns.cls = RX1 ∧ yX1_turns.cls ≠ "java/lang/invoke/MethodHandle" ∧ yX1_turns.cls ≠ "java/lang/invoke/VarHandle" ∧ (parseMethodDescriptor yX1_turns.desc).map (fun d => d.parameters.length) = some 0 := by decide +kernel
set_option maxHeartbeats 4000000 in
set_option maxRecDepth 100000 in
theorem kX1_turns {l : Launch} {D : va_G} {cy : ClassId} {H : Heap} {q : Nat → Nat} {ff fm fw : Int32} {ak : Int64} {ta gh kd fa fb sx sy mb co : Nat → Int32} {N K S : Nat}  (hP : va_P D vwCl (wM cy q (nI N) (nI K) (nI S) ff fm fw ak ta gh kd fa fb sx sy mb co) H)  (hN : N ≤ 12) : Met l yX1_turns wsX1_turns { frames := 0, cells := 0, slots := 0, locals := 0 } (pcK D cy H [.ref (q 0)]) (QcRead (2730 &&& (nI (2 ^ N) - 1))) 0 0 (fun _ => False) := by
  refine mV 1 (by decide) rfl (Nat.le_of_ble_eq_true rfl) ?_
  intro p e s m below meth c hx hb hml hr hlk hts hown hnm hK hH ls hl
  have hC := (⟨hx, hb, hml, hown, hts⟩ : CallFix p m c cX1_turns 1 s _ wsX1_turns RX1)
  have hin : ∀ w ∈ wsX10, w ∈ wsX1_turns := by decide +kernel
  have L7 : Cond.fieldLink RX1 7 "TwoColoursModel" "n" "I" ∈ wsX1_turns := by decide +kernel
  have hl : lv_has ls 1 [(0, .ref (q 0))] := hl
  refine lv_sipush (v := 2730) hx hb dX1_turns_0 (by decide) ?_
  refine lv_iconst (v := 1) hx hb dX1_turns_3 (by decide) ?_
  refine lv_aload_n hx hb dX1_turns_4 rfl (lv_at hl 0 rfl) ?_
  refine gM_n hx hb hts hin hown hK hP L7 dX1_turns_5 ?_
  refine lv_ishl hx hb dX1_turns_8 ?_
  refine tpI (y := nI (2 ^ N)) (shl1 N (by omega)) ?_
  refine lv_iconst (v := 1) hx hb dX1_turns_9 (by decide) ?_
  refine lv_isub hx hb dX1_turns_10 ?_
  refine lv_iand hx hb dX1_turns_11 ?_
  exact rI hx hb hr hlk hH dX1_turns_12 rfl
end
section
set_option maxHeartbeats 4000000 in
set_option maxRecDepth 100000 in
theorem kX1_far {l : Launch}  (x : Int32) (y : Int32)  : Met l yX1_far wsX1_far { frames := 1, cells := 0, slots := 0, locals := 20 } (fun v _ => v = ([.int x, .int y] : List Value).toArray) (QcRead (gsz x y)) 0 0 (fun _ => False) := by
  refine mS 2 (by decide) rfl (Nat.le_of_ble_eq_true rfl) ?_
  intro p e s m below meth c hx hb hml hr hlk hts hown ls hl
  have hC := (⟨hx, hb, hml, hown, hts⟩ : CallFix p m c cX1_far 2 s _ wsX1_far RX1)
  have hl : lv_has ls 2 [(0, .int (x)), (1, .int (y))] := hl
  refine lv_iload_n hx hb dX1_far_0 rfl (lv_at hl 0 rfl) ?_
  refine cS (As := [.int (x)]) hC (kX1_size x ) [] (va_cwS 1 hts gX1_far_X1_size rfl rfl rfl (by decide +kernel) ⟨Nat.le_of_ble_eq_true rfl, Nat.le_of_ble_eq_true rfl⟩) rfl hl.1 rfl (Nat.le_of_ble_eq_true rfl) dX1_far_1 ⟨Nat.zero_le _, Nat.zero_le _⟩ ?_
  refine lv_iload_n hx hb dX1_far_4 rfl (lv_at hl 1 rfl) ?_
  refine cS (As := [.int (y)]) hC (kX1_size y ) [.int (absI x)] (va_cwS 1 hts gX1_far_X1_size rfl rfl rfl (by decide +kernel) ⟨Nat.le_of_ble_eq_true rfl, Nat.le_of_ble_eq_true rfl⟩) rfl hl.1 rfl (Nat.le_of_ble_eq_true rfl) dX1_far_5 ⟨Nat.zero_le _, Nat.zero_le _⟩ ?_
  refine lv_icmp_le (tgt := 18) hx hb dX1_far_8 (by decide) (fun cz1 => ?_) (fun cz1 => ?_)
  · refine lv_iload_n hx hb dX1_far_18 rfl (lv_at hl 1 rfl) ?_
    refine cS (As := [.int (y)]) hC (kX1_size y ) [] (va_cwS 1 hts gX1_far_X1_size rfl rfl rfl (by decide +kernel) ⟨Nat.le_of_ble_eq_true rfl, Nat.le_of_ble_eq_true rfl⟩) rfl hl.1 rfl (Nat.le_of_ble_eq_true rfl) dX1_far_19 ⟨Nat.zero_le _, Nat.zero_le _⟩ ?_
    exact rI hx hb hr hlk rfl dX1_far_22 (by rw [gsz, maxI]; split; rfl; exact Int32.le_antisymm (Int32.not_lt.mp (by assumption)) cz1)
  · refine lv_iload_n hx hb dX1_far_11 rfl (lv_at hl 0 rfl) ?_
    refine cS (As := [.int (x)]) hC (kX1_size x ) [] (va_cwS 1 hts gX1_far_X1_size rfl rfl rfl (by decide +kernel) ⟨Nat.le_of_ble_eq_true rfl, Nat.le_of_ble_eq_true rfl⟩) rfl hl.1 rfl (Nat.le_of_ble_eq_true rfl) dX1_far_12 ⟨Nat.zero_le _, Nat.zero_le _⟩ ?_
    refine lv_goto (tgt := 22) hx hb dX1_far_15 (by decide) ?_
    exact rI hx hb hr hlk rfl dX1_far_22 (by rw [gsz, maxI, if_neg (fun h => Int32.lt_irrefl (Int32.lt_trans h (Int32.not_le.mp cz1)))])

theorem hdX1_strayOf : yX1_strayOf.cls = RX1 ∧ yX1_strayOf.cls ≠ "java/lang/invoke/MethodHandle" ∧ yX1_strayOf.cls ≠ "java/lang/invoke/VarHandle" ∧ (parseMethodDescriptor yX1_strayOf.desc).map (fun d => d.parameters.length) = some 1 := by decide +kernel
set_option maxHeartbeats 4000000 in
set_option maxRecDepth 100000 in
theorem kX1_strayOf {l : Launch} {D : va_G} {cy : ClassId} {H : Heap} {q : Nat → Nat} {ff fm fw : Int32} {ak : Int64} {ta gh kd fa fb sx sy mb co : Nat → Int32} {N K S : Nat}  (hP : va_P D vwCl (wM cy q (nI N) (nI K) (nI S) ff fm fw ak ta gh kd fa fb sx sy mb co) H) (k : Int32) (hSn : S ≤ 10) : Met l yX1_strayOf wsX1_strayOf { frames := 2, cells := 0, slots := 0, locals := 41 } (pcK D cy H [.ref (q 0), .int k]) (QcRead (stm sx sy k S)) 0 0 (fun _ => False) := by
  refine mV 7 (by decide) rfl (Nat.le_of_ble_eq_true rfl) ?_
  intro p e s m below meth c hx hb hml hr hlk hts hown hnm hK hH ls hl
  have hC := (⟨hx, hb, hml, hown, hts⟩ : CallFix p m c cX1_strayOf 7 s _ wsX1_strayOf RX1)
  have hin : ∀ w ∈ wsX10, w ∈ wsX1_strayOf := by decide +kernel
  have L29 : Cond.fieldLink RX1 29 "TwoColoursModel" "stepX" "[I" ∈ wsX1_strayOf := by decide +kernel
  have L32 : Cond.fieldLink RX1 32 "TwoColoursModel" "stepY" "[I" ∈ wsX1_strayOf := by decide +kernel
  have L122 : Cond.fieldLink RX1 122 "TwoColoursModel" "steps" "I" ∈ wsX1_strayOf := by decide +kernel
  have hl : lv_has ls 7 [(0, .ref (q 0)), (1, .int (k))] := hl
  refine lv_iconst (v := 0) hx hb dX1_strayOf_0 (by decide) ?_
  refine lv_istore_n (lv' := [(2, .int (0)), (0, .ref (q 0)), (1, .int (k))]) hx hb dX1_strayOf_1 rfl hl (by decide) rfl (fun ls hl => ?_)
  refine lv_iconst (v := 0) hx hb dX1_strayOf_2 (by decide) ?_
  refine lv_istore_n (lv' := [(3, .int (0)), (2, .int (0)), (0, .ref (q 0)), (1, .int (k))]) hx hb dX1_strayOf_3 rfl hl (by decide) rfl (fun ls hl => ?_)
  refine lv_iconst (v := 0) hx hb dX1_strayOf_4 (by decide) ?_
  refine lv_istore (lv' := [(4, .int (0)), (3, .int (0)), (2, .int (0)), (0, .ref (q 0)), (1, .int (k))]) hx hb dX1_strayOf_5 hl (by decide) rfl (fun ls hl => ?_)
  refine lv_iconst (v := 0) hx hb dX1_strayOf_7 (by decide) ?_
  refine lv_istore (lv' := [(5, .int (0)), (4, .int (0)), (3, .int (0)), (2, .int (0)), (0, .ref (q 0)), (1, .int (k))]) hx hb dX1_strayOf_8 hl (by decide) rfl (fun ls hl => ?_)
  refine lpP 10 (fun i ls => lv_has ls 7 [(0, .ref (q 0)), (1, .int (k)), (2, .int (stx sx k i)), (3, .int (stx sy k i)), (4, .int (stm sx sy k i)), (5, .int (nI i))]) (S) ?_ (0) ls (by omega) (lv_sub hl [4, 5, 3, 2, 1, 0] rfl)
  intro i ls hi hl ih_10
  refine lv_iload hx hb dX1_strayOf_10 (lv_at hl 5 rfl) ?_
  refine lv_aload_n hx hb dX1_strayOf_12 rfl (lv_at hl 0 rfl) ?_
  refine gM_steps hx hb hts hin hown hK hP L122 dX1_strayOf_13 ?_
  refine lv_icmp_ge (tgt := 90) hx hb dX1_strayOf_16 (by decide) (fun cz1 => ?_) (fun cz1 => ?_)
  · have cz1 : S ≤ i := (nI_leI (a := S) (b := i) (by omega) (by omega)).mp cz1
    refine lv_iload hx hb dX1_strayOf_90 (lv_at hl 4 rfl) ?_
    exact rI hx hb hr hlk hH dX1_strayOf_92 (by rw [show i = S by omega])
  · have cz1 : ¬ S ≤ i := fun h => cz1 ((nI_leI (a := S) (b := i) (by omega) (by omega)).mpr h)
    refine lv_iload_n hx hb dX1_strayOf_19 rfl (lv_at hl 1 rfl) ?_
    refine lv_iload hx hb dX1_strayOf_20 (lv_at hl 5 rfl) ?_
    refine lv_ishr hx hb dX1_strayOf_22 ?_
    refine lv_iconst (v := 1) hx hb dX1_strayOf_23 (by decide) ?_
    refine lv_iand hx hb dX1_strayOf_24 ?_
    refine lv_iconst (v := 1) hx hb dX1_strayOf_25 (by decide) ?_
    refine lv_icmp_ne (tgt := 33) hx hb dX1_strayOf_26 (by decide) (fun cz2 => ?_) (fun cz2 => ?_)
    · refine lv_iconst (v := 1) hx hb dX1_strayOf_33 (by decide) ?_
      refine tpI (y := sgI k i) (by rw [sgI, if_pos (bit1 cz2)]) ?_
      refine lv_istore (lv' := [(6, .int (sgI k i)), (0, .ref (q 0)), (1, .int (k)), (2, .int (stx sx k i)), (3, .int (stx sy k i)), (4, .int (stm sx sy k i)), (5, .int (nI i))]) hx hb dX1_strayOf_34 hl (by decide) rfl (fun ls hl => ?_)
      refine lv_iload_n hx hb dX1_strayOf_36 rfl (lv_at hl 3 rfl) ?_
      refine lv_iload hx hb dX1_strayOf_37 (lv_at hl 0 rfl) ?_
      refine lv_aload_n hx hb dX1_strayOf_39 rfl (lv_at hl 1 rfl) ?_
      refine gM_stepX hx hb hts hin hown hK hP L29 dX1_strayOf_40 ?_
      refine lv_iload hx hb dX1_strayOf_43 (lv_at hl 6 rfl) ?_
      refine ldM_stepX (j := i) hx hb hK hP rfl (by omega) dX1_strayOf_45 ?_
      refine lv_imul hx hb dX1_strayOf_46 ?_
      refine lv_iadd hx hb dX1_strayOf_47 ?_
      refine lv_istore_n (lv' := [(2, .int ((stx sx k i) + ((sgI k i) * (sx i)))), (6, .int (sgI k i)), (0, .ref (q 0)), (1, .int (k)), (3, .int (stx sy k i)), (4, .int (stm sx sy k i)), (5, .int (nI i))]) hx hb dX1_strayOf_48 rfl hl (by decide) rfl (fun ls hl => ?_)
      refine lv_iload_n hx hb dX1_strayOf_49 rfl (lv_at hl 4 rfl) ?_
      refine lv_iload hx hb dX1_strayOf_50 (lv_at hl 1 rfl) ?_
      refine lv_aload_n hx hb dX1_strayOf_52 rfl (lv_at hl 2 rfl) ?_
      refine gM_stepY hx hb hts hin hown hK hP L32 dX1_strayOf_53 ?_
      refine lv_iload hx hb dX1_strayOf_56 (lv_at hl 6 rfl) ?_
      refine ldM_stepY (j := i) hx hb hK hP rfl (by omega) dX1_strayOf_58 ?_
      refine lv_imul hx hb dX1_strayOf_59 ?_
      refine lv_iadd hx hb dX1_strayOf_60 ?_
      refine lv_istore_n (lv' := [(3, .int ((stx sy k i) + ((sgI k i) * (sy i)))), (2, .int ((stx sx k i) + ((sgI k i) * (sx i)))), (6, .int (sgI k i)), (0, .ref (q 0)), (1, .int (k)), (4, .int (stm sx sy k i)), (5, .int (nI i))]) hx hb dX1_strayOf_61 rfl hl (by decide) rfl (fun ls hl => ?_)
      refine lv_iload_n hx hb dX1_strayOf_62 rfl (lv_at hl 1 rfl) ?_
      refine lv_iload_n hx hb dX1_strayOf_63 rfl (lv_at hl 0 rfl) ?_
      refine cS (As := [.int ((stx sx k i) + ((sgI k i) * (sx i))), .int ((stx sy k i) + ((sgI k i) * (sy i)))]) hC (kX1_far ((stx sx k i) + ((sgI k i) * (sx i))) ((stx sy k i) + ((sgI k i) * (sy i))) ) [] (va_cwS 2 hts gX1_strayOf_X1_far rfl rfl rfl (by decide +kernel) ⟨Nat.le_of_ble_eq_true rfl, Nat.le_of_ble_eq_true rfl⟩) rfl hl.1 rfl (Nat.le_of_ble_eq_true rfl) dX1_strayOf_64 ⟨Nat.zero_le _, Nat.zero_le _⟩ ?_
      refine lv_iload hx hb dX1_strayOf_67 (lv_at hl 5 rfl) ?_
      refine lv_icmp_le (tgt := 80) hx hb dX1_strayOf_69 (by decide) (fun cz3 => ?_) (fun cz3 => ?_)
      · refine lv_iload hx hb dX1_strayOf_80 (lv_at hl 5 rfl) ?_
        refine tpI (y := maxI (stm sx sy k i) (gsz (stx sx k i + sgI k i * sx i) (stx sy k i + sgI k i * sy i))) (by rw [maxI, if_neg (Int32.not_lt.mpr cz3)]) ?_
        refine lv_istore (lv' := [(4, .int (maxI (stm sx sy k i) (gsz (stx sx k i + sgI k i * sx i) (stx sy k i + sgI k i * sy i)))), (3, .int ((stx sy k i) + ((sgI k i) * (sy i)))), (2, .int ((stx sx k i) + ((sgI k i) * (sx i)))), (6, .int (sgI k i)), (0, .ref (q 0)), (1, .int (k)), (5, .int (nI i))]) hx hb dX1_strayOf_82 hl (by decide) rfl (fun ls hl => ?_)
        refine lv_iinc (v := nI (i + 1)) (lv' := [(5, .int (nI (i + 1))), (4, .int (maxI (stm sx sy k i) (gsz (stx sx k i + sgI k i * sx i) (stx sy k i + sgI k i * sy i)))), (3, .int ((stx sy k i) + ((sgI k i) * (sy i)))), (2, .int ((stx sx k i) + ((sgI k i) * (sx i)))), (6, .int (sgI k i)), (0, .ref (q 0)), (1, .int (k))]) hx hb dX1_strayOf_84 hl (k := 6) rfl (nI_1 _) (by decide) rfl (fun ls hl => ?_)
        refine lv_goto (tgt := 10) hx hb dX1_strayOf_87 (by decide) ?_
        exact ih_10 _ (by omega) (lv_sub hl [5, 6, 3, 2, 1, 0] rfl)
      · refine lv_iload_n hx hb dX1_strayOf_72 rfl (lv_at hl 1 rfl) ?_
        refine lv_iload_n hx hb dX1_strayOf_73 rfl (lv_at hl 0 rfl) ?_
        refine cS (As := [.int ((stx sx k i) + ((sgI k i) * (sx i))), .int ((stx sy k i) + ((sgI k i) * (sy i)))]) hC (kX1_far ((stx sx k i) + ((sgI k i) * (sx i))) ((stx sy k i) + ((sgI k i) * (sy i))) ) [] (va_cwS 2 hts gX1_strayOf_X1_far rfl rfl rfl (by decide +kernel) ⟨Nat.le_of_ble_eq_true rfl, Nat.le_of_ble_eq_true rfl⟩) rfl hl.1 rfl (Nat.le_of_ble_eq_true rfl) dX1_strayOf_74 ⟨Nat.zero_le _, Nat.zero_le _⟩ ?_
        refine lv_goto (tgt := 82) hx hb dX1_strayOf_77 (by decide) ?_
        refine tpI (y := maxI (stm sx sy k i) (gsz (stx sx k i + sgI k i * sx i) (stx sy k i + sgI k i * sy i))) (by rw [maxI, if_pos (Int32.not_le.mp cz3)]) ?_
        refine lv_istore (lv' := [(4, .int (maxI (stm sx sy k i) (gsz (stx sx k i + sgI k i * sx i) (stx sy k i + sgI k i * sy i)))), (3, .int ((stx sy k i) + ((sgI k i) * (sy i)))), (2, .int ((stx sx k i) + ((sgI k i) * (sx i)))), (6, .int (sgI k i)), (0, .ref (q 0)), (1, .int (k)), (5, .int (nI i))]) hx hb dX1_strayOf_82 hl (by decide) rfl (fun ls hl => ?_)
        refine lv_iinc (v := nI (i + 1)) (lv' := [(5, .int (nI (i + 1))), (4, .int (maxI (stm sx sy k i) (gsz (stx sx k i + sgI k i * sx i) (stx sy k i + sgI k i * sy i)))), (3, .int ((stx sy k i) + ((sgI k i) * (sy i)))), (2, .int ((stx sx k i) + ((sgI k i) * (sx i)))), (6, .int (sgI k i)), (0, .ref (q 0)), (1, .int (k))]) hx hb dX1_strayOf_84 hl (k := 6) rfl (nI_1 _) (by decide) rfl (fun ls hl => ?_)
        refine lv_goto (tgt := 10) hx hb dX1_strayOf_87 (by decide) ?_
        exact ih_10 _ (by omega) (lv_sub hl [5, 6, 3, 2, 1, 0] rfl)
    · refine lv_iconst (v := (-1)) hx hb dX1_strayOf_29 (by decide) ?_
      refine lv_goto (tgt := 34) hx hb dX1_strayOf_30 (by decide) ?_
      refine tpI (y := sgI k i) (by rw [sgI, if_neg (fun h => absurd (h.symm.trans cz2) (by decide))]) ?_
      refine lv_istore (lv' := [(6, .int (sgI k i)), (0, .ref (q 0)), (1, .int (k)), (2, .int (stx sx k i)), (3, .int (stx sy k i)), (4, .int (stm sx sy k i)), (5, .int (nI i))]) hx hb dX1_strayOf_34 hl (by decide) rfl (fun ls hl => ?_)
      refine lv_iload_n hx hb dX1_strayOf_36 rfl (lv_at hl 3 rfl) ?_
      refine lv_iload hx hb dX1_strayOf_37 (lv_at hl 0 rfl) ?_
      refine lv_aload_n hx hb dX1_strayOf_39 rfl (lv_at hl 1 rfl) ?_
      refine gM_stepX hx hb hts hin hown hK hP L29 dX1_strayOf_40 ?_
      refine lv_iload hx hb dX1_strayOf_43 (lv_at hl 6 rfl) ?_
      refine ldM_stepX (j := i) hx hb hK hP rfl (by omega) dX1_strayOf_45 ?_
      refine lv_imul hx hb dX1_strayOf_46 ?_
      refine lv_iadd hx hb dX1_strayOf_47 ?_
      refine lv_istore_n (lv' := [(2, .int ((stx sx k i) + ((sgI k i) * (sx i)))), (6, .int (sgI k i)), (0, .ref (q 0)), (1, .int (k)), (3, .int (stx sy k i)), (4, .int (stm sx sy k i)), (5, .int (nI i))]) hx hb dX1_strayOf_48 rfl hl (by decide) rfl (fun ls hl => ?_)
      refine lv_iload_n hx hb dX1_strayOf_49 rfl (lv_at hl 4 rfl) ?_
      refine lv_iload hx hb dX1_strayOf_50 (lv_at hl 1 rfl) ?_
      refine lv_aload_n hx hb dX1_strayOf_52 rfl (lv_at hl 2 rfl) ?_
      refine gM_stepY hx hb hts hin hown hK hP L32 dX1_strayOf_53 ?_
      refine lv_iload hx hb dX1_strayOf_56 (lv_at hl 6 rfl) ?_
      refine ldM_stepY (j := i) hx hb hK hP rfl (by omega) dX1_strayOf_58 ?_
      refine lv_imul hx hb dX1_strayOf_59 ?_
      refine lv_iadd hx hb dX1_strayOf_60 ?_
      refine lv_istore_n (lv' := [(3, .int ((stx sy k i) + ((sgI k i) * (sy i)))), (2, .int ((stx sx k i) + ((sgI k i) * (sx i)))), (6, .int (sgI k i)), (0, .ref (q 0)), (1, .int (k)), (4, .int (stm sx sy k i)), (5, .int (nI i))]) hx hb dX1_strayOf_61 rfl hl (by decide) rfl (fun ls hl => ?_)
      refine lv_iload_n hx hb dX1_strayOf_62 rfl (lv_at hl 1 rfl) ?_
      refine lv_iload_n hx hb dX1_strayOf_63 rfl (lv_at hl 0 rfl) ?_
      refine cS (As := [.int ((stx sx k i) + ((sgI k i) * (sx i))), .int ((stx sy k i) + ((sgI k i) * (sy i)))]) hC (kX1_far ((stx sx k i) + ((sgI k i) * (sx i))) ((stx sy k i) + ((sgI k i) * (sy i))) ) [] (va_cwS 2 hts gX1_strayOf_X1_far rfl rfl rfl (by decide +kernel) ⟨Nat.le_of_ble_eq_true rfl, Nat.le_of_ble_eq_true rfl⟩) rfl hl.1 rfl (Nat.le_of_ble_eq_true rfl) dX1_strayOf_64 ⟨Nat.zero_le _, Nat.zero_le _⟩ ?_
      refine lv_iload hx hb dX1_strayOf_67 (lv_at hl 5 rfl) ?_
      refine lv_icmp_le (tgt := 80) hx hb dX1_strayOf_69 (by decide) (fun cz4 => ?_) (fun cz4 => ?_)
      · refine lv_iload hx hb dX1_strayOf_80 (lv_at hl 5 rfl) ?_
        refine tpI (y := maxI (stm sx sy k i) (gsz (stx sx k i + sgI k i * sx i) (stx sy k i + sgI k i * sy i))) (by rw [maxI, if_neg (Int32.not_lt.mpr cz4)]) ?_
        refine lv_istore (lv' := [(4, .int (maxI (stm sx sy k i) (gsz (stx sx k i + sgI k i * sx i) (stx sy k i + sgI k i * sy i)))), (3, .int ((stx sy k i) + ((sgI k i) * (sy i)))), (2, .int ((stx sx k i) + ((sgI k i) * (sx i)))), (6, .int (sgI k i)), (0, .ref (q 0)), (1, .int (k)), (5, .int (nI i))]) hx hb dX1_strayOf_82 hl (by decide) rfl (fun ls hl => ?_)
        refine lv_iinc (v := nI (i + 1)) (lv' := [(5, .int (nI (i + 1))), (4, .int (maxI (stm sx sy k i) (gsz (stx sx k i + sgI k i * sx i) (stx sy k i + sgI k i * sy i)))), (3, .int ((stx sy k i) + ((sgI k i) * (sy i)))), (2, .int ((stx sx k i) + ((sgI k i) * (sx i)))), (6, .int (sgI k i)), (0, .ref (q 0)), (1, .int (k))]) hx hb dX1_strayOf_84 hl (k := 6) rfl (nI_1 _) (by decide) rfl (fun ls hl => ?_)
        refine lv_goto (tgt := 10) hx hb dX1_strayOf_87 (by decide) ?_
        exact ih_10 _ (by omega) (lv_sub hl [5, 6, 3, 2, 1, 0] rfl)
      · refine lv_iload_n hx hb dX1_strayOf_72 rfl (lv_at hl 1 rfl) ?_
        refine lv_iload_n hx hb dX1_strayOf_73 rfl (lv_at hl 0 rfl) ?_
        refine cS (As := [.int ((stx sx k i) + ((sgI k i) * (sx i))), .int ((stx sy k i) + ((sgI k i) * (sy i)))]) hC (kX1_far ((stx sx k i) + ((sgI k i) * (sx i))) ((stx sy k i) + ((sgI k i) * (sy i))) ) [] (va_cwS 2 hts gX1_strayOf_X1_far rfl rfl rfl (by decide +kernel) ⟨Nat.le_of_ble_eq_true rfl, Nat.le_of_ble_eq_true rfl⟩) rfl hl.1 rfl (Nat.le_of_ble_eq_true rfl) dX1_strayOf_74 ⟨Nat.zero_le _, Nat.zero_le _⟩ ?_
        refine lv_goto (tgt := 82) hx hb dX1_strayOf_77 (by decide) ?_
        refine tpI (y := maxI (stm sx sy k i) (gsz (stx sx k i + sgI k i * sx i) (stx sy k i + sgI k i * sy i))) (by rw [maxI, if_pos (Int32.not_le.mp cz4)]) ?_
        refine lv_istore (lv' := [(4, .int (maxI (stm sx sy k i) (gsz (stx sx k i + sgI k i * sx i) (stx sy k i + sgI k i * sy i)))), (3, .int ((stx sy k i) + ((sgI k i) * (sy i)))), (2, .int ((stx sx k i) + ((sgI k i) * (sx i)))), (6, .int (sgI k i)), (0, .ref (q 0)), (1, .int (k)), (5, .int (nI i))]) hx hb dX1_strayOf_82 hl (by decide) rfl (fun ls hl => ?_)
        refine lv_iinc (v := nI (i + 1)) (lv' := [(5, .int (nI (i + 1))), (4, .int (maxI (stm sx sy k i) (gsz (stx sx k i + sgI k i * sx i) (stx sy k i + sgI k i * sy i)))), (3, .int ((stx sy k i) + ((sgI k i) * (sy i)))), (2, .int ((stx sx k i) + ((sgI k i) * (sx i)))), (6, .int (sgI k i)), (0, .ref (q 0)), (1, .int (k))]) hx hb dX1_strayOf_84 hl (k := 6) rfl (nI_1 _) (by decide) rfl (fun ls hl => ?_)
        refine lv_goto (tgt := 10) hx hb dX1_strayOf_87 (by decide) ?_
        exact ih_10 _ (by omega) (lv_sub hl [5, 6, 3, 2, 1, 0] rfl)

theorem hdX1_stray : yX1_stray.cls = RX1 ∧ yX1_stray.cls ≠ "java/lang/invoke/MethodHandle" ∧ yX1_stray.cls ≠ "java/lang/invoke/VarHandle" ∧ (parseMethodDescriptor yX1_stray.desc).map (fun d => d.parameters.length) = some 1 := by decide +kernel
set_option maxHeartbeats 4000000 in
set_option maxRecDepth 100000 in
theorem kX1_stray {l : Launch} {D : va_G} {cy : ClassId} {H : Heap} {q : Nat → Nat} {ff fm fw : Int32} {ak : Int64} {ta gh kd fa fb sx sy mb co : Nat → Int32} {N K S : Nat}  (hP : va_P D vwCl (wM cy q (nI N) (nI K) (nI S) ff fm fw ak ta gh kd fa fb sx sy mb co) H) (k : Int32) (hSn : S ≤ 10) : Met l yX1_stray wsX1_stray { frames := 3, cells := 0, slots := 0, locals := 67 } (pcK D cy H [.ref (q 0), .int k]) (QcRead (if 0 ≤ k ∧ k < nI (2 ^ S) then stm sx sy k S else -1)) 0 0 (fun _ => False) := by
  refine mV 2 (by decide) rfl (Nat.le_of_ble_eq_true rfl) ?_
  intro p e s m below meth c hx hb hml hr hlk hts hown hnm hK hH ls hl
  have hC := (⟨hx, hb, hml, hown, hts⟩ : CallFix p m c cX1_stray 2 s _ wsX1_stray RX1)
  have hin : ∀ w ∈ wsX10, w ∈ wsX1_stray := by decide +kernel
  have L122 : Cond.fieldLink RX1 122 "TwoColoursModel" "steps" "I" ∈ wsX1_stray := by decide +kernel
  have hl : lv_has ls 2 [(0, .ref (q 0)), (1, .int (k))] := hl
  have h2S := p2_le (n := S) (by omega)
  have h2P := p2_pos S
  refine lv_iload_n hx hb dX1_stray_0 rfl (lv_at hl 1 rfl) ?_
  refine lv_iconst (v := 0) hx hb dX1_stray_1 (by decide) ?_
  refine lv_iconst (v := 1) hx hb dX1_stray_2 (by decide) ?_
  refine lv_aload_n hx hb dX1_stray_3 rfl (lv_at hl 0 rfl) ?_
  refine gM_steps hx hb hts hin hown hK hP L122 dX1_stray_4 ?_
  refine lv_ishl hx hb dX1_stray_7 ?_
  refine tpI (y := nI (2 ^ S)) (shl1 S (by omega)) ?_
  refine lv_iconst (v := 1) hx hb dX1_stray_8 (by decide) ?_
  refine lv_isub hx hb dX1_stray_9 ?_
  refine cS (As := [.int (k), .int (0), .int ((nI (2 ^ S)) - ((1 : Int32)))]) hC (kX1_in k 0 ((nI (2 ^ S)) - ((1 : Int32))) ) [] (va_cwS 3 hts gX1_stray_X1_in rfl rfl rfl (by decide +kernel) ⟨Nat.le_of_ble_eq_true rfl, Nat.le_of_ble_eq_true rfl⟩) rfl hl.1 rfl (Nat.le_of_ble_eq_true rfl) dX1_stray_10 ⟨Nat.zero_le _, Nat.zero_le _⟩ ?_
  refine lv_if_eq (tgt := 24) hx hb dX1_stray_13 (by decide) (fun cz1 => ?_) (fun cz1 => ?_)
  · have cz1 := b2_0 cz1
    refine lv_iconst (v := (-1)) hx hb dX1_stray_24 (by decide) ?_
    exact rI hx hb hr hlk hH dX1_stray_25 (by rw [if_neg (fun h => cz1 ((leP (by omega)).mpr h))])
  · have cz1 := b2_1 cz1
    refine lv_aload_n hx hb dX1_stray_16 rfl (lv_at hl 0 rfl) ?_
    refine lv_iload_n hx hb dX1_stray_17 rfl (lv_at hl 1 rfl) ?_
    refine cV (As := [.int (k)]) hC hK hP rfl rfl (kX1_strayOf hP k (by omega)) [] (cwV 1 hts gX1_stray_X1_strayOf rfl rfl rfl hdX1_strayOf ⟨Nat.le_of_ble_eq_true rfl, Nat.le_of_ble_eq_true rfl⟩) rfl hl.1 rfl (Nat.le_of_ble_eq_true rfl) dX1_stray_18 ⟨Nat.zero_le _, Nat.zero_le _⟩ ?_
    refine lv_goto (tgt := 25) hx hb dX1_stray_21 (by decide) ?_
    exact rI hx hb hr hlk hH dX1_stray_25 (by rw [if_pos ((leP (by omega)).mp cz1)])

theorem hdX1_nearest : yX1_nearest.cls = RX1 ∧ yX1_nearest.cls ≠ "java/lang/invoke/MethodHandle" ∧ yX1_nearest.cls ≠ "java/lang/invoke/VarHandle" ∧ (parseMethodDescriptor yX1_nearest.desc).map (fun d => d.parameters.length) = some 0 := by decide +kernel
set_option maxHeartbeats 4000000 in
set_option maxRecDepth 100000 in
theorem kX1_nearest {l : Launch} {D : va_G} {cy : ClassId} {H : Heap} {q : Nat → Nat} {ff fm fw : Int32} {ak : Int64} {ta gh kd fa fb sx sy mb co : Nat → Int32} {N K S : Nat}  (hP : va_P D vwCl (wM cy q (nI N) (nI K) (nI S) ff fm fw ak ta gh kd fa fb sx sy mb co) H)  (hSn : S ≤ 10) : Met l yX1_nearest wsX1_nearest { frames := 2, cells := 0, slots := 0, locals := 41 } (pcK D cy H [.ref (q 0)]) (QcRead ((nef sx sy S).2.2)) 0 0 (fun _ => False) := by
  refine mV 7 (by decide) rfl (Nat.le_of_ble_eq_true rfl) ?_
  intro p e s m below meth c hx hb hml hr hlk hts hown hnm hK hH ls hl
  have hC := (⟨hx, hb, hml, hown, hts⟩ : CallFix p m c cX1_nearest 7 s _ wsX1_nearest RX1)
  have hin : ∀ w ∈ wsX10, w ∈ wsX1_nearest := by decide +kernel
  have L29 : Cond.fieldLink RX1 29 "TwoColoursModel" "stepX" "[I" ∈ wsX1_nearest := by decide +kernel
  have L32 : Cond.fieldLink RX1 32 "TwoColoursModel" "stepY" "[I" ∈ wsX1_nearest := by decide +kernel
  have L122 : Cond.fieldLink RX1 122 "TwoColoursModel" "steps" "I" ∈ wsX1_nearest := by decide +kernel
  have hl : lv_has ls 7 [(0, .ref (q 0))] := hl
  refine lv_iconst (v := 0) hx hb dX1_nearest_0 (by decide) ?_
  refine lv_istore_n (lv' := [(1, .int (0)), (0, .ref (q 0))]) hx hb dX1_nearest_1 rfl hl (by decide) rfl (fun ls hl => ?_)
  refine lv_iconst (v := 0) hx hb dX1_nearest_2 (by decide) ?_
  refine lv_istore_n (lv' := [(2, .int (0)), (1, .int (0)), (0, .ref (q 0))]) hx hb dX1_nearest_3 rfl hl (by decide) rfl (fun ls hl => ?_)
  refine lv_iconst (v := 0) hx hb dX1_nearest_4 (by decide) ?_
  refine lv_istore_n (lv' := [(3, .int (0)), (2, .int (0)), (1, .int (0)), (0, .ref (q 0))]) hx hb dX1_nearest_5 rfl hl (by decide) rfl (fun ls hl => ?_)
  refine lv_iconst (v := 0) hx hb dX1_nearest_6 (by decide) ?_
  refine lv_istore (lv' := [(4, .int (0)), (3, .int (0)), (2, .int (0)), (1, .int (0)), (0, .ref (q 0))]) hx hb dX1_nearest_7 hl (by decide) rfl (fun ls hl => ?_)
  refine lpP 9 (fun i ls => lv_has ls 7 [(0, .ref (q 0)), (1, .int ((nef sx sy i).1)), (2, .int ((nef sx sy i).2.1)), (3, .int ((nef sx sy i).2.2)), (4, .int (nI i))]) (S) ?_ (0) ls (by omega) (lv_sub hl [4, 3, 2, 1, 0] rfl)
  intro i ls hi hl ih_9
  refine lv_iload hx hb dX1_nearest_9 (lv_at hl 4 rfl) ?_
  refine lv_aload_n hx hb dX1_nearest_11 rfl (lv_at hl 0 rfl) ?_
  refine gM_steps hx hb hts hin hown hK hP L122 dX1_nearest_12 ?_
  refine lv_icmp_ge (tgt := 130) hx hb dX1_nearest_15 (by decide) (fun cz1 => ?_) (fun cz1 => ?_)
  · have cz1 : S ≤ i := (nI_leI (a := S) (b := i) (by omega) (by omega)).mp cz1
    refine lv_iload_n hx hb dX1_nearest_130 rfl (lv_at hl 3 rfl) ?_
    exact rI hx hb hr hlk hH dX1_nearest_131 (by rw [show i = S by omega])
  · have cz1 : ¬ S ≤ i := fun h => cz1 ((nI_leI (a := S) (b := i) (by omega) (by omega)).mpr h)
    refine lv_iload_n hx hb dX1_nearest_18 rfl (lv_at hl 1 rfl) ?_
    refine lv_aload_n hx hb dX1_nearest_19 rfl (lv_at hl 0 rfl) ?_
    refine gM_stepX hx hb hts hin hown hK hP L29 dX1_nearest_20 ?_
    refine lv_iload hx hb dX1_nearest_23 (lv_at hl 4 rfl) ?_
    refine ldM_stepX (j := i) hx hb hK hP rfl (by omega) dX1_nearest_25 ?_
    refine lv_isub hx hb dX1_nearest_26 ?_
    refine lv_iload_n hx hb dX1_nearest_27 rfl (lv_at hl 2 rfl) ?_
    refine lv_aload_n hx hb dX1_nearest_28 rfl (lv_at hl 0 rfl) ?_
    refine gM_stepY hx hb hts hin hown hK hP L32 dX1_nearest_29 ?_
    refine lv_iload hx hb dX1_nearest_32 (lv_at hl 4 rfl) ?_
    refine ldM_stepY (j := i) hx hb hK hP rfl (by omega) dX1_nearest_34 ?_
    refine lv_isub hx hb dX1_nearest_35 ?_
    refine cS (As := [.int (((nef sx sy i).1) - (sx i)), .int (((nef sx sy i).2.1) - (sy i))]) hC (kX1_far (((nef sx sy i).1) - (sx i)) (((nef sx sy i).2.1) - (sy i)) ) [] (va_cwS 2 hts gX1_nearest_X1_far rfl rfl rfl (by decide +kernel) ⟨Nat.le_of_ble_eq_true rfl, Nat.le_of_ble_eq_true rfl⟩) rfl hl.1 rfl (Nat.le_of_ble_eq_true rfl) dX1_nearest_36 ⟨Nat.zero_le _, Nat.zero_le _⟩ ?_
    refine lv_iload_n hx hb dX1_nearest_39 rfl (lv_at hl 1 rfl) ?_
    refine lv_aload_n hx hb dX1_nearest_40 rfl (lv_at hl 0 rfl) ?_
    refine gM_stepX hx hb hts hin hown hK hP L29 dX1_nearest_41 ?_
    refine lv_iload hx hb dX1_nearest_44 (lv_at hl 4 rfl) ?_
    refine ldM_stepX (j := i) hx hb hK hP rfl (by omega) dX1_nearest_46 ?_
    refine lv_iadd hx hb dX1_nearest_47 ?_
    refine lv_iload_n hx hb dX1_nearest_48 rfl (lv_at hl 2 rfl) ?_
    refine lv_aload_n hx hb dX1_nearest_49 rfl (lv_at hl 0 rfl) ?_
    refine gM_stepY hx hb hts hin hown hK hP L32 dX1_nearest_50 ?_
    refine lv_iload hx hb dX1_nearest_53 (lv_at hl 4 rfl) ?_
    refine ldM_stepY (j := i) hx hb hK hP rfl (by omega) dX1_nearest_55 ?_
    refine lv_iadd hx hb dX1_nearest_56 ?_
    refine cS (As := [.int (((nef sx sy i).1) + (sx i)), .int (((nef sx sy i).2.1) + (sy i))]) hC (kX1_far (((nef sx sy i).1) + (sx i)) (((nef sx sy i).2.1) + (sy i)) ) [.int (gsz (((nef sx sy i).1) - (sx i)) (((nef sx sy i).2.1) - (sy i)))] (va_cwS 2 hts gX1_nearest_X1_far rfl rfl rfl (by decide +kernel) ⟨Nat.le_of_ble_eq_true rfl, Nat.le_of_ble_eq_true rfl⟩) rfl hl.1 rfl (Nat.le_of_ble_eq_true rfl) dX1_nearest_57 ⟨Nat.zero_le _, Nat.zero_le _⟩ ?_
    refine lv_icmp_ge (tgt := 67) hx hb dX1_nearest_60 (by decide) (fun cz2 => ?_) (fun cz2 => ?_)
    · refine lv_iconst (v := 0) hx hb dX1_nearest_67 (by decide) ?_
      refine lv_istore (lv' := [(5, .int (0)), (0, .ref (q 0)), (1, .int ((nef sx sy i).1)), (2, .int ((nef sx sy i).2.1)), (3, .int ((nef sx sy i).2.2)), (4, .int (nI i))]) hx hb dX1_nearest_68 hl (by decide) rfl (fun ls hl => ?_)
      refine lv_iload hx hb dX1_nearest_70 (lv_at hl 0 rfl) ?_
      refine lv_if_eq (tgt := 79) hx hb dX1_nearest_72 (by decide) (fun _ => ?_) (fun h => absurd h (by decide))
      refine lv_iconst (v := 1) hx hb dX1_nearest_79 (by decide) ?_
      refine lv_istore (lv' := [(6, .int (1)), (5, .int (0)), (0, .ref (q 0)), (1, .int ((nef sx sy i).1)), (2, .int ((nef sx sy i).2.1)), (3, .int ((nef sx sy i).2.2)), (4, .int (nI i))]) hx hb dX1_nearest_80 hl (by decide) rfl (fun ls hl => ?_)
      refine lv_iload_n hx hb dX1_nearest_82 rfl (lv_at hl 3 rfl) ?_
      refine lv_iload hx hb dX1_nearest_83 (lv_at hl 0 rfl) ?_
      refine lv_aload_n hx hb dX1_nearest_85 rfl (lv_at hl 2 rfl) ?_
      refine gM_stepX hx hb hts hin hown hK hP L29 dX1_nearest_86 ?_
      refine lv_iload hx hb dX1_nearest_89 (lv_at hl 6 rfl) ?_
      refine ldM_stepX (j := i) hx hb hK hP rfl (by omega) dX1_nearest_91 ?_
      refine lv_imul hx hb dX1_nearest_92 ?_
      refine lv_iadd hx hb dX1_nearest_93 ?_
      refine lv_istore_n (lv' := [(1, .int (((nef sx sy i).1) + ((1 : Int32) * (sx i)))), (6, .int (1)), (5, .int (0)), (0, .ref (q 0)), (2, .int ((nef sx sy i).2.1)), (3, .int ((nef sx sy i).2.2)), (4, .int (nI i))]) hx hb dX1_nearest_94 rfl hl (by decide) rfl (fun ls hl => ?_)
      refine lv_iload_n hx hb dX1_nearest_95 rfl (lv_at hl 4 rfl) ?_
      refine lv_iload hx hb dX1_nearest_96 (lv_at hl 1 rfl) ?_
      refine lv_aload_n hx hb dX1_nearest_98 rfl (lv_at hl 3 rfl) ?_
      refine gM_stepY hx hb hts hin hown hK hP L32 dX1_nearest_99 ?_
      refine lv_iload hx hb dX1_nearest_102 (lv_at hl 6 rfl) ?_
      refine ldM_stepY (j := i) hx hb hK hP rfl (by omega) dX1_nearest_104 ?_
      refine lv_imul hx hb dX1_nearest_105 ?_
      refine lv_iadd hx hb dX1_nearest_106 ?_
      refine lv_istore_n (lv' := [(2, .int (((nef sx sy i).2.1) + ((1 : Int32) * (sy i)))), (1, .int (((nef sx sy i).1) + ((1 : Int32) * (sx i)))), (6, .int (1)), (5, .int (0)), (0, .ref (q 0)), (3, .int ((nef sx sy i).2.2)), (4, .int (nI i))]) hx hb dX1_nearest_107 rfl hl (by decide) rfl (fun ls hl => ?_)
      refine lv_iload_n hx hb dX1_nearest_108 rfl (lv_at hl 5 rfl) ?_
      refine lv_iload hx hb dX1_nearest_109 (lv_at hl 3 rfl) ?_
      refine lv_if_eq (tgt := 121) hx hb dX1_nearest_111 (by decide) (fun _ => ?_) (fun h => absurd h (by decide))
      refine lv_iconst (v := 0) hx hb dX1_nearest_121 (by decide) ?_
      refine lv_ior hx hb dX1_nearest_122 ?_
      refine lv_istore_n (lv' := [(3, .int (((nef sx sy i).2.2) ||| ((0 : Int32)))), (2, .int (((nef sx sy i).2.1) + ((1 : Int32) * (sy i)))), (1, .int (((nef sx sy i).1) + ((1 : Int32) * (sx i)))), (6, .int (1)), (5, .int (0)), (0, .ref (q 0)), (4, .int (nI i))]) hx hb dX1_nearest_123 rfl hl (by decide) rfl (fun ls hl => ?_)
      refine lv_iinc (v := nI (i + 1)) (lv' := [(4, .int (nI (i + 1))), (3, .int (((nef sx sy i).2.2) ||| ((0 : Int32)))), (2, .int (((nef sx sy i).2.1) + ((1 : Int32) * (sy i)))), (1, .int (((nef sx sy i).1) + ((1 : Int32) * (sx i)))), (6, .int (1)), (5, .int (0)), (0, .ref (q 0))]) hx hb dX1_nearest_124 hl (k := 6) rfl (nI_1 _) (by decide) rfl (fun ls hl => ?_)
      refine lv_goto (tgt := 9) hx hb dX1_nearest_127 (by decide) ?_
      exact ih_9 _ (by omega) (by rw [nef_f (Int32.not_lt.mpr cz2), ← or0 (nef sx sy i).2.2]; exact lv_sub hl [6, 3, 2, 1, 0] rfl)
    · refine lv_iconst (v := 1) hx hb dX1_nearest_63 (by decide) ?_
      refine lv_goto (tgt := 68) hx hb dX1_nearest_64 (by decide) ?_
      refine lv_istore (lv' := [(5, .int (1)), (0, .ref (q 0)), (1, .int ((nef sx sy i).1)), (2, .int ((nef sx sy i).2.1)), (3, .int ((nef sx sy i).2.2)), (4, .int (nI i))]) hx hb dX1_nearest_68 hl (by decide) rfl (fun ls hl => ?_)
      refine lv_iload hx hb dX1_nearest_70 (lv_at hl 0 rfl) ?_
      refine lv_if_eq (tgt := 79) hx hb dX1_nearest_72 (by decide) (fun h => absurd h (by decide)) (fun _ => ?_)
      refine lv_iconst (v := (-1)) hx hb dX1_nearest_75 (by decide) ?_
      refine lv_goto (tgt := 80) hx hb dX1_nearest_76 (by decide) ?_
      refine lv_istore (lv' := [(6, .int (-1)), (5, .int (1)), (0, .ref (q 0)), (1, .int ((nef sx sy i).1)), (2, .int ((nef sx sy i).2.1)), (3, .int ((nef sx sy i).2.2)), (4, .int (nI i))]) hx hb dX1_nearest_80 hl (by decide) rfl (fun ls hl => ?_)
      refine lv_iload_n hx hb dX1_nearest_82 rfl (lv_at hl 3 rfl) ?_
      refine lv_iload hx hb dX1_nearest_83 (lv_at hl 0 rfl) ?_
      refine lv_aload_n hx hb dX1_nearest_85 rfl (lv_at hl 2 rfl) ?_
      refine gM_stepX hx hb hts hin hown hK hP L29 dX1_nearest_86 ?_
      refine lv_iload hx hb dX1_nearest_89 (lv_at hl 6 rfl) ?_
      refine ldM_stepX (j := i) hx hb hK hP rfl (by omega) dX1_nearest_91 ?_
      refine lv_imul hx hb dX1_nearest_92 ?_
      refine lv_iadd hx hb dX1_nearest_93 ?_
      refine lv_istore_n (lv' := [(1, .int (((nef sx sy i).1) + ((-1 : Int32) * (sx i)))), (6, .int (-1)), (5, .int (1)), (0, .ref (q 0)), (2, .int ((nef sx sy i).2.1)), (3, .int ((nef sx sy i).2.2)), (4, .int (nI i))]) hx hb dX1_nearest_94 rfl hl (by decide) rfl (fun ls hl => ?_)
      refine lv_iload_n hx hb dX1_nearest_95 rfl (lv_at hl 4 rfl) ?_
      refine lv_iload hx hb dX1_nearest_96 (lv_at hl 1 rfl) ?_
      refine lv_aload_n hx hb dX1_nearest_98 rfl (lv_at hl 3 rfl) ?_
      refine gM_stepY hx hb hts hin hown hK hP L32 dX1_nearest_99 ?_
      refine lv_iload hx hb dX1_nearest_102 (lv_at hl 6 rfl) ?_
      refine ldM_stepY (j := i) hx hb hK hP rfl (by omega) dX1_nearest_104 ?_
      refine lv_imul hx hb dX1_nearest_105 ?_
      refine lv_iadd hx hb dX1_nearest_106 ?_
      refine lv_istore_n (lv' := [(2, .int (((nef sx sy i).2.1) + ((-1 : Int32) * (sy i)))), (1, .int (((nef sx sy i).1) + ((-1 : Int32) * (sx i)))), (6, .int (-1)), (5, .int (1)), (0, .ref (q 0)), (3, .int ((nef sx sy i).2.2)), (4, .int (nI i))]) hx hb dX1_nearest_107 rfl hl (by decide) rfl (fun ls hl => ?_)
      refine lv_iload_n hx hb dX1_nearest_108 rfl (lv_at hl 5 rfl) ?_
      refine lv_iload hx hb dX1_nearest_109 (lv_at hl 3 rfl) ?_
      refine lv_if_eq (tgt := 121) hx hb dX1_nearest_111 (by decide) (fun h => absurd h (by decide)) (fun _ => ?_)
      refine lv_iconst (v := 1) hx hb dX1_nearest_114 (by decide) ?_
      refine lv_iload hx hb dX1_nearest_115 (lv_at hl 6 rfl) ?_
      refine lv_ishl hx hb dX1_nearest_117 ?_
      refine lv_goto (tgt := 122) hx hb dX1_nearest_118 (by decide) ?_
      refine lv_ior hx hb dX1_nearest_122 ?_
      refine lv_istore_n (lv' := [(3, .int (((nef sx sy i).2.2) ||| ((1 : Int32) <<< ((nI i) &&& 31)))), (2, .int (((nef sx sy i).2.1) + ((-1 : Int32) * (sy i)))), (1, .int (((nef sx sy i).1) + ((-1 : Int32) * (sx i)))), (6, .int (-1)), (5, .int (1)), (0, .ref (q 0)), (4, .int (nI i))]) hx hb dX1_nearest_123 rfl hl (by decide) rfl (fun ls hl => ?_)
      refine lv_iinc (v := nI (i + 1)) (lv' := [(4, .int (nI (i + 1))), (3, .int (((nef sx sy i).2.2) ||| ((1 : Int32) <<< ((nI i) &&& 31)))), (2, .int (((nef sx sy i).2.1) + ((-1 : Int32) * (sy i)))), (1, .int (((nef sx sy i).1) + ((-1 : Int32) * (sx i)))), (6, .int (-1)), (5, .int (1)), (0, .ref (q 0))]) hx hb dX1_nearest_124 hl (k := 6) rfl (nI_1 _) (by decide) rfl (fun ls hl => ?_)
      refine lv_goto (tgt := 9) hx hb dX1_nearest_127 (by decide) ?_
      exact ih_9 _ (by omega) (by rw [nef_t (Int32.not_le.mp cz2)]; exact lv_sub hl [6, 3, 2, 1, 0] rfl)

theorem hdX1_straight : yX1_straight.cls = RX1 ∧ yX1_straight.cls ≠ "java/lang/invoke/MethodHandle" ∧ yX1_straight.cls ≠ "java/lang/invoke/VarHandle" ∧ (parseMethodDescriptor yX1_straight.desc).map (fun d => d.parameters.length) = some 1 := by decide +kernel
set_option maxHeartbeats 4000000 in
set_option maxRecDepth 100000 in
theorem kX1_straight {l : Launch} {D : va_G} {cy : ClassId} {H : Heap} {q : Nat → Nat} {ff fm fw : Int32} {ak : Int64} {ta gh kd fa fb sx sy mb co : Nat → Int32} {N K S : Nat}  (hP : va_P D vwCl (wM cy q (nI N) (nI K) (nI S) ff fm fw ak ta gh kd fa fb sx sy mb co) H) (k : Int32) (hSn : S ≤ 10) : Met l yX1_straight wsX1_straight { frames := 3, cells := 0, slots := 0, locals := 67 } (pcK D cy H [.ref (q 0), .int k]) (QcRead (if k = 0 then stm sx sy (nI (beS sx sy S)) S else if k = 1 then nI (beS sx sy S) else if k = 2 then (nef sx sy S).2.2 else -1)) 0 0 (fun _ => False) := by
  refine mV 6 (by decide) rfl (Nat.le_of_ble_eq_true rfl) ?_
  intro p e s m below meth c hx hb hml hr hlk hts hown hnm hK hH ls hl
  have hC := (⟨hx, hb, hml, hown, hts⟩ : CallFix p m c cX1_straight 6 s _ wsX1_straight RX1)
  have hin : ∀ w ∈ wsX10, w ∈ wsX1_straight := by decide +kernel
  have L122 : Cond.fieldLink RX1 122 "TwoColoursModel" "steps" "I" ∈ wsX1_straight := by decide +kernel
  have hl : lv_has ls 6 [(0, .ref (q 0)), (1, .int (k))] := hl
  have h2S := p2_le (n := S) (by omega)
  have h2P := p2_pos S
  refine lv_iload_n hx hb dX1_straight_0 rfl (lv_at hl 1 rfl) ?_
  refine lv_iconst (v := 0) hx hb dX1_straight_1 (by decide) ?_
  refine lv_iconst (v := 2) hx hb dX1_straight_2 (by decide) ?_
  refine cS (As := [.int (k), .int (0), .int (2)]) hC (kX1_in k 0 2 ) [] (va_cwS 3 hts gX1_straight_X1_in rfl rfl rfl (by decide +kernel) ⟨Nat.le_of_ble_eq_true rfl, Nat.le_of_ble_eq_true rfl⟩) rfl hl.1 rfl (Nat.le_of_ble_eq_true rfl) dX1_straight_3 ⟨Nat.zero_le _, Nat.zero_le _⟩ ?_
  refine lv_if_ne (tgt := 11) hx hb dX1_straight_6 (by decide) (fun cz1 => ?_) (fun cz1 => ?_)
  · have cz1 := b2_1 cz1
    refine lv_iload_n hx hb dX1_straight_11 rfl (lv_at hl 1 rfl) ?_
    refine lv_iconst (v := 2) hx hb dX1_straight_12 (by decide) ?_
    refine lv_icmp_ne (tgt := 21) hx hb dX1_straight_13 (by decide) (fun cz2 => ?_) (fun cz2 => ?_)
    · refine lv_iconst (v := 0) hx hb dX1_straight_21 (by decide) ?_
      refine lv_istore_n (lv' := [(2, .int (0)), (0, .ref (q 0)), (1, .int (k))]) hx hb dX1_straight_22 rfl hl (by decide) rfl (fun ls hl => ?_)
      refine lv_aload_n hx hb dX1_straight_23 rfl (lv_at hl 1 rfl) ?_
      refine lv_iconst (v := 0) hx hb dX1_straight_24 (by decide) ?_
      refine cV (As := [.int (0)]) hC hK hP rfl rfl (kX1_strayOf hP 0 (by omega)) [] (cwV 1 hts gX1_straight_X1_strayOf rfl rfl rfl hdX1_strayOf ⟨Nat.le_of_ble_eq_true rfl, Nat.le_of_ble_eq_true rfl⟩) rfl hl.1 rfl (Nat.le_of_ble_eq_true rfl) dX1_straight_25 ⟨Nat.zero_le _, Nat.zero_le _⟩ ?_
      refine lv_istore_n (lv' := [(3, .int (stm sx sy (0 : Int32) S)), (2, .int (0)), (0, .ref (q 0)), (1, .int (k))]) hx hb dX1_straight_28 rfl hl (by decide) rfl (fun ls hl => ?_)
      refine lv_iconst (v := 1) hx hb dX1_straight_29 (by decide) ?_
      refine lv_istore (lv' := [(4, .int (1)), (3, .int (stm sx sy (0 : Int32) S)), (2, .int (0)), (0, .ref (q 0)), (1, .int (k))]) hx hb dX1_straight_30 hl (by decide) rfl (fun ls hl => ?_)
      refine lpP 32 (fun i ls => lv_has ls 6 [(0, .ref (q 0)), (1, .int (k)), (2, .int (nI (amF (fun n => stm sx sy (nI n) S) (fun _ => true) 0 i))), (3, .int (stm sx sy (nI (amF (fun n => stm sx sy (nI n) S) (fun _ => true) 0 i)) S)), (4, .int (nI (0 + 1 + i)))]) (2 ^ S - 1) ?_ (0) ls (by omega) (lv_sub hl [3, 4, 2, 1, 0] rfl)
      intro i ls hi hl ih_32
      refine lv_iload hx hb dX1_straight_32 (lv_at hl 4 rfl) ?_
      refine lv_iconst (v := 1) hx hb dX1_straight_34 (by decide) ?_
      refine lv_aload_n hx hb dX1_straight_35 rfl (lv_at hl 0 rfl) ?_
      refine gM_steps hx hb hts hin hown hK hP L122 dX1_straight_36 ?_
      refine lv_ishl hx hb dX1_straight_39 ?_
      refine tpI (y := nI (2 ^ S)) (shl1 S (by omega)) ?_
      refine lv_icmp_ge (tgt := 83) hx hb dX1_straight_40 (by decide) (fun cz3 => ?_) (fun cz3 => ?_)
      · have cz3 : (2 ^ S) ≤ (0 + 1 + i) := (nI_leI (a := (2 ^ S)) (b := (0 + 1 + i)) (by omega) (by omega)).mp cz3
        refine lv_iload_n hx hb dX1_straight_83 rfl (lv_at hl 1 rfl) ?_
        refine lv_if_ne (tgt := 91) hx hb dX1_straight_84 (by decide) (fun cz4 => ?_) (fun cz4 => ?_)
        · refine lv_iload_n hx hb dX1_straight_91 rfl (lv_at hl 2 rfl) ?_
          exact rI hx hb hr hlk hH dX1_straight_92 (by rw [if_neg cz4, if_pos (in012 cz1 cz2 cz4), show i = 2 ^ S - 1 by omega]; rfl)
        · refine lv_iload_n hx hb dX1_straight_87 rfl (lv_at hl 3 rfl) ?_
          refine lv_goto (tgt := 92) hx hb dX1_straight_88 (by decide) ?_
          exact rI hx hb hr hlk hH dX1_straight_92 (by rw [if_pos cz4, show i = 2 ^ S - 1 by omega]; rfl)
      · have cz3 : ¬ (2 ^ S) ≤ (0 + 1 + i) := fun h => cz3 ((nI_leI (a := (2 ^ S)) (b := (0 + 1 + i)) (by omega) (by omega)).mpr h)
        refine lv_aload_n hx hb dX1_straight_43 rfl (lv_at hl 0 rfl) ?_
        refine lv_iload hx hb dX1_straight_44 (lv_at hl 4 rfl) ?_
        refine cV (As := [.int (nI (0 + 1 + i))]) hC hK hP rfl rfl (kX1_strayOf hP (nI (0 + 1 + i)) (by omega)) [] (cwV 1 hts gX1_straight_X1_strayOf rfl rfl rfl hdX1_strayOf ⟨Nat.le_of_ble_eq_true rfl, Nat.le_of_ble_eq_true rfl⟩) rfl hl.1 rfl (Nat.le_of_ble_eq_true rfl) dX1_straight_46 ⟨Nat.zero_le _, Nat.zero_le _⟩ ?_
        refine lv_istore (lv' := [(5, .int (stm sx sy (nI (0 + 1 + i)) S)), (0, .ref (q 0)), (1, .int (k)), (2, .int (nI (amF (fun n => stm sx sy (nI n) S) (fun _ => true) 0 i))), (3, .int (stm sx sy (nI (amF (fun n => stm sx sy (nI n) S) (fun _ => true) 0 i)) S)), (4, .int (nI (0 + 1 + i)))]) hx hb dX1_straight_49 hl (by decide) rfl (fun ls hl => ?_)
        refine lv_iload hx hb dX1_straight_51 (lv_at hl 0 rfl) ?_
        refine lv_iload_n hx hb dX1_straight_53 rfl (lv_at hl 4 rfl) ?_
        refine lv_icmp_ge (tgt := 62) hx hb dX1_straight_54 (by decide) (fun cz5 => ?_) (fun cz5 => ?_)
        · refine lv_iload_n hx hb dX1_straight_62 rfl (lv_at hl 3 rfl) ?_
          refine lv_istore_n (lv' := [(2, .int (nI (amF (fun n => stm sx sy (nI n) S) (fun _ => true) 0 i))), (5, .int (stm sx sy (nI (0 + 1 + i)) S)), (0, .ref (q 0)), (1, .int (k)), (3, .int (stm sx sy (nI (amF (fun n => stm sx sy (nI n) S) (fun _ => true) 0 i)) S)), (4, .int (nI (0 + 1 + i)))]) hx hb dX1_straight_63 rfl hl (by decide) rfl (fun ls hl => ?_)
          refine lv_iload hx hb dX1_straight_64 (lv_at hl 1 rfl) ?_
          refine lv_iload_n hx hb dX1_straight_66 rfl (lv_at hl 4 rfl) ?_
          refine lv_icmp_ge (tgt := 75) hx hb dX1_straight_67 (by decide) (fun _ => ?_) (fun h => absurd cz5 h)
          refine lv_iload_n hx hb dX1_straight_75 rfl (lv_at hl 4 rfl) ?_
          refine lv_istore_n (lv' := [(3, .int (stm sx sy (nI (amF (fun n => stm sx sy (nI n) S) (fun _ => true) 0 i)) S)), (2, .int (nI (amF (fun n => stm sx sy (nI n) S) (fun _ => true) 0 i))), (5, .int (stm sx sy (nI (0 + 1 + i)) S)), (0, .ref (q 0)), (1, .int (k)), (4, .int (nI (0 + 1 + i)))]) hx hb dX1_straight_76 rfl hl (by decide) rfl (fun ls hl => ?_)
          refine lv_iinc (v := nI ((0 + 1 + i) + 1)) (lv' := [(4, .int (nI ((0 + 1 + i) + 1))), (3, .int (stm sx sy (nI (amF (fun n => stm sx sy (nI n) S) (fun _ => true) 0 i)) S)), (2, .int (nI (amF (fun n => stm sx sy (nI n) S) (fun _ => true) 0 i))), (5, .int (stm sx sy (nI (0 + 1 + i)) S)), (0, .ref (q 0)), (1, .int (k))]) hx hb dX1_straight_77 hl (k := 5) rfl (nI_1 _) (by decide) rfl (fun ls hl => ?_)
          refine lv_goto (tgt := 32) hx hb dX1_straight_80 (by decide) ?_
          exact ih_32 _ (by omega) (by rw [amF_f (w := (fun n => stm sx sy (nI n) S)) (ok := fun _ => true) (Int32.not_lt.mpr cz5)]; exact lv_sub hl [4, 5, 2, 1, 0] rfl)
        · refine lv_iload hx hb dX1_straight_57 (lv_at hl 5 rfl) ?_
          refine lv_goto (tgt := 63) hx hb dX1_straight_59 (by decide) ?_
          refine lv_istore_n (lv' := [(2, .int (nI (0 + 1 + i))), (5, .int (stm sx sy (nI (0 + 1 + i)) S)), (0, .ref (q 0)), (1, .int (k)), (3, .int (stm sx sy (nI (amF (fun n => stm sx sy (nI n) S) (fun _ => true) 0 i)) S)), (4, .int (nI (0 + 1 + i)))]) hx hb dX1_straight_63 rfl hl (by decide) rfl (fun ls hl => ?_)
          refine lv_iload hx hb dX1_straight_64 (lv_at hl 1 rfl) ?_
          refine lv_iload_n hx hb dX1_straight_66 rfl (lv_at hl 4 rfl) ?_
          refine lv_icmp_ge (tgt := 75) hx hb dX1_straight_67 (by decide) (fun h => absurd h cz5) (fun _ => ?_)
          refine lv_iload hx hb dX1_straight_70 (lv_at hl 1 rfl) ?_
          refine lv_goto (tgt := 76) hx hb dX1_straight_72 (by decide) ?_
          refine lv_istore_n (lv' := [(3, .int (stm sx sy (nI (0 + 1 + i)) S)), (2, .int (nI (0 + 1 + i))), (5, .int (stm sx sy (nI (0 + 1 + i)) S)), (0, .ref (q 0)), (1, .int (k)), (4, .int (nI (0 + 1 + i)))]) hx hb dX1_straight_76 rfl hl (by decide) rfl (fun ls hl => ?_)
          refine lv_iinc (v := nI ((0 + 1 + i) + 1)) (lv' := [(4, .int (nI ((0 + 1 + i) + 1))), (3, .int (stm sx sy (nI (0 + 1 + i)) S)), (2, .int (nI (0 + 1 + i))), (5, .int (stm sx sy (nI (0 + 1 + i)) S)), (0, .ref (q 0)), (1, .int (k))]) hx hb dX1_straight_77 hl (k := 5) rfl (nI_1 _) (by decide) rfl (fun ls hl => ?_)
          refine lv_goto (tgt := 32) hx hb dX1_straight_80 (by decide) ?_
          exact ih_32 _ (by omega) (by rw [amF_t (w := (fun n => stm sx sy (nI n) S)) (ok := fun _ => true) rfl (Int32.not_le.mp cz5)]; exact lv_sub hl [4, 5, 2, 1, 0] rfl)
    · refine lv_aload_n hx hb dX1_straight_16 rfl (lv_at hl 0 rfl) ?_
      refine cV (As := []) hC hK hP rfl rfl (kX1_nearest hP  (by omega)) [] (cwV 0 hts gX1_straight_X1_nearest rfl rfl rfl hdX1_nearest ⟨Nat.le_of_ble_eq_true rfl, Nat.le_of_ble_eq_true rfl⟩) rfl hl.1 rfl (Nat.le_of_ble_eq_true rfl) dX1_straight_17 ⟨Nat.zero_le _, Nat.zero_le _⟩ ?_
      exact rI hx hb hr hlk hH dX1_straight_20 (by rw [if_neg (by rw [cz2]; decide), if_neg (by rw [cz2]; decide), if_pos cz2])
  · have cz1 := b2_0 cz1
    refine lv_iconst (v := (-1)) hx hb dX1_straight_9 (by decide) ?_
    exact rI hx hb hr hlk hH dX1_straight_10 (by rw [if_neg (fun h => cz1 (by rw [h]; decide)), if_neg (fun h => cz1 (by rw [h]; decide)), if_neg (fun h => cz1 (by rw [h]; decide))])

theorem hdX1_count : yX1_count.cls = RX1 ∧ yX1_count.cls ≠ "java/lang/invoke/MethodHandle" ∧ yX1_count.cls ≠ "java/lang/invoke/VarHandle" ∧ (parseMethodDescriptor yX1_count.desc).map (fun d => d.parameters.length) = some 1 := by decide +kernel
set_option maxHeartbeats 4000000 in
set_option maxRecDepth 100000 in
theorem kX1_count {l : Launch} {D : va_G} {cy : ClassId} {H : Heap} {q : Nat → Nat} {ff fm fw : Int32} {ak : Int64} {ta gh kd fa fb sx sy mb co : Nat → Int32} {N K S : Nat}  (hP : va_P D vwCl (wM cy q (nI N) (nI K) (nI S) ff fm fw ak ta gh kd fa fb sx sy mb co) H) (k : Int32) (hN : N ≤ 12) : Met l yX1_count wsX1_count { frames := 0, cells := 0, slots := 0, locals := 0 } (pcK D cy H [.ref (q 0), .int k]) (QcRead (if k = 0 then nI N else if k = 1 then nI K else if k = 2 then nI S else if k = 3 then chF gh N else -1)) 0 0 (fun _ => False) := by
  refine mV 4 (by decide) rfl (Nat.le_of_ble_eq_true rfl) ?_
  intro p e s m below meth c hx hb hml hr hlk hts hown hnm hK hH ls hl
  have hC := (⟨hx, hb, hml, hown, hts⟩ : CallFix p m c cX1_count 4 s _ wsX1_count RX1)
  have hin : ∀ w ∈ wsX10, w ∈ wsX1_count := by decide +kernel
  have L7 : Cond.fieldLink RX1 7 "TwoColoursModel" "n" "I" ∈ wsX1_count := by decide +kernel
  have L17 : Cond.fieldLink RX1 17 "TwoColoursModel" "held" "[I" ∈ wsX1_count := by decide +kernel
  have L41 : Cond.fieldLink RX1 41 "TwoColoursModel" "heaps" "I" ∈ wsX1_count := by decide +kernel
  have L122 : Cond.fieldLink RX1 122 "TwoColoursModel" "steps" "I" ∈ wsX1_count := by decide +kernel
  have hl : lv_has ls 4 [(0, .ref (q 0)), (1, .int (k))] := hl
  refine lv_iconst (v := 0) hx hb dX1_count_0 (by decide) ?_
  refine lv_istore_n (lv' := [(2, .int (0)), (0, .ref (q 0)), (1, .int (k))]) hx hb dX1_count_1 rfl hl (by decide) rfl (fun ls hl => ?_)
  refine lv_iload_n hx hb dX1_count_2 rfl (lv_at hl 2 rfl) ?_
  by_cases cz1 : k = 0
  · refine lv_tableIn (off := 29) (tgt := 32) hx hb dX1_count_3 (by rw [cz1]; decide) (by rw [cz1]; decide) (by rw [cz1]; decide) (by decide) ?_
    refine lv_aload_n hx hb dX1_count_32 rfl (lv_at hl 1 rfl) ?_
    refine gM_n hx hb hts hin hown hK hP L7 dX1_count_33 ?_
    exact rI hx hb hr hlk hH dX1_count_36 (by clear hl hC hin hK hP hts hown hnm hx hb hr hlk hml; simp_all)
  by_cases cz2 : k = 1
  · refine lv_tableIn (off := 34) (tgt := 37) hx hb dX1_count_3 (by rw [cz2]; decide) (by rw [cz2]; decide) (by rw [cz2]; decide) (by decide) ?_
    refine lv_aload_n hx hb dX1_count_37 rfl (lv_at hl 1 rfl) ?_
    refine gM_heaps hx hb hts hin hown hK hP L41 dX1_count_38 ?_
    exact rI hx hb hr hlk hH dX1_count_41 (by clear hl hC hin hK hP hts hown hnm hx hb hr hlk hml; simp_all)
  by_cases cz3 : k = 2
  · refine lv_tableIn (off := 39) (tgt := 42) hx hb dX1_count_3 (by rw [cz3]; decide) (by rw [cz3]; decide) (by rw [cz3]; decide) (by decide) ?_
    refine lv_aload_n hx hb dX1_count_42 rfl (lv_at hl 1 rfl) ?_
    refine gM_steps hx hb hts hin hown hK hP L122 dX1_count_43 ?_
    exact rI hx hb hr hlk hH dX1_count_46 (by clear hl hC hin hK hP hts hown hnm hx hb hr hlk hml; simp_all)
  by_cases cz4 : k = 3
  · refine lv_tableIn (off := 44) (tgt := 47) hx hb dX1_count_3 (by rw [cz4]; decide) (by rw [cz4]; decide) (by rw [cz4]; decide) (by decide) ?_
    refine lv_iconst (v := 0) hx hb dX1_count_47 (by decide) ?_
    refine lv_istore_n (lv' := [(3, .int (0)), (2, .int (0)), (0, .ref (q 0)), (1, .int (k))]) hx hb dX1_count_48 rfl hl (by decide) rfl (fun ls hl => ?_)
    refine lpP 49 (fun i ls => lv_has ls 4 [(0, .ref (q 0)), (1, .int (k)), (2, .int (chF gh i)), (3, .int (nI i))]) (N) ?_ (0) ls (by omega) (lv_sub hl [2, 3, 1, 0] rfl)
    intro i ls hi hl ih_49
    refine lv_iload_n hx hb dX1_count_49 rfl (lv_at hl 3 rfl) ?_
    refine lv_aload_n hx hb dX1_count_50 rfl (lv_at hl 0 rfl) ?_
    refine gM_n hx hb hts hin hown hK hP L7 dX1_count_51 ?_
    refine lv_icmp_ge (tgt := 80) hx hb dX1_count_54 (by decide) (fun cz5 => ?_) (fun cz5 => ?_)
    · have cz5 : N ≤ i := (nI_leI (a := N) (b := i) (by omega) (by omega)).mp cz5
      refine lv_iload_n hx hb dX1_count_80 rfl (lv_at hl 2 rfl) ?_
      exact rI hx hb hr hlk hH dX1_count_81 (by rw [show i = N by omega]; simp_all)
    · have cz5 : ¬ N ≤ i := fun h => cz5 ((nI_leI (a := N) (b := i) (by omega) (by omega)).mpr h)
      refine lv_iload_n hx hb dX1_count_57 rfl (lv_at hl 2 rfl) ?_
      refine lv_aload_n hx hb dX1_count_58 rfl (lv_at hl 0 rfl) ?_
      refine gM_held hx hb hts hin hown hK hP L17 dX1_count_59 ?_
      refine lv_iload_n hx hb dX1_count_62 rfl (lv_at hl 3 rfl) ?_
      refine ldM_held (j := i) hx hb hK hP rfl (by omega) dX1_count_63 ?_
      refine lv_if_ge (tgt := 71) hx hb dX1_count_64 (by decide) (fun cz6 => ?_) (fun cz6 => ?_)
      · refine lv_iconst (v := 1) hx hb dX1_count_71 (by decide) ?_
        refine lv_iadd hx hb dX1_count_72 ?_
        refine lv_istore_n (lv' := [(2, .int ((chF gh i) + ((1 : Int32)))), (0, .ref (q 0)), (1, .int (k)), (3, .int (nI i))]) hx hb dX1_count_73 rfl hl (by decide) rfl (fun ls hl => ?_)
        refine lv_iinc (v := nI (i + 1)) (lv' := [(3, .int (nI (i + 1))), (2, .int ((chF gh i) + ((1 : Int32)))), (0, .ref (q 0)), (1, .int (k))]) hx hb dX1_count_74 hl (k := 3) rfl (nI_1 _) (by decide) rfl (fun ls hl => ?_)
        refine lv_goto (tgt := 49) hx hb dX1_count_77 (by decide) ?_
        exact ih_49 _ (by omega) (by rw [chF, if_neg (Int32.not_lt.mpr cz6)]; exact lv_sub hl [2, 3, 1, 0] rfl)
      · refine lv_iconst (v := 0) hx hb dX1_count_67 (by decide) ?_
        refine lv_goto (tgt := 72) hx hb dX1_count_68 (by decide) ?_
        refine lv_iadd hx hb dX1_count_72 ?_
        refine lv_istore_n (lv' := [(2, .int ((chF gh i) + ((0 : Int32)))), (0, .ref (q 0)), (1, .int (k)), (3, .int (nI i))]) hx hb dX1_count_73 rfl hl (by decide) rfl (fun ls hl => ?_)
        refine lv_iinc (v := nI (i + 1)) (lv' := [(3, .int (nI (i + 1))), (2, .int ((chF gh i) + ((0 : Int32)))), (0, .ref (q 0)), (1, .int (k))]) hx hb dX1_count_74 hl (k := 3) rfl (nI_1 _) (by decide) rfl (fun ls hl => ?_)
        refine lv_goto (tgt := 49) hx hb dX1_count_77 (by decide) ?_
        exact ih_49 _ (by omega) (by rw [chF, if_pos (Int32.not_le.mp cz6)]; exact lv_sub hl [2, 3, 1, 0] rfl)
  refine lv_tableOut (tgt := 82) hx hb dX1_count_3 (by have h0 := lv_neT (a := 0) cz1 (by decide); have h1 := lv_neT (a := 1) cz2 (by decide); have h2 := lv_neT (a := 2) cz3 (by decide); have h3 := lv_neT (a := 3) cz4 (by decide); omega) (by decide) ?_
  refine lv_iconst (v := (-1)) hx hb dX1_count_82 (by decide) ?_
  exact rI hx hb hr hlk hH dX1_count_83 (by clear hl hC hin hK hP hts hown hnm hx hb hr hlk hml; simp_all)

theorem hdX1_trace : yX1_trace.cls = RX1 ∧ yX1_trace.cls ≠ "java/lang/invoke/MethodHandle" ∧ yX1_trace.cls ≠ "java/lang/invoke/VarHandle" ∧ (parseMethodDescriptor yX1_trace.desc).map (fun d => d.parameters.length) = some 0 := by decide +kernel
set_option maxHeartbeats 4000000 in
set_option maxRecDepth 100000 in
theorem kX1_trace {l : Launch} {D : va_G} {cy : ClassId} {H : Heap} {q : Nat → Nat} {ff fm fw : Int32} {ak : Int64} {ta gh kd fa fb sx sy mb co : Nat → Int32} {N K S : Nat}  (hP : va_P D vwCl (wM cy q (nI N) (nI K) (nI S) ff fm fw ak ta gh kd fa fb sx sy mb co) H)   : Met l yX1_trace wsX1_trace { frames := 0, cells := 0, slots := 0, locals := 0 } (pcK D cy H [.ref (q 0)]) (qI (some (.long ak)) (fun H1 => H1 = H) (fun _ => False)) 0 0 (fun _ => False) := by
  refine mV 1 (by decide) rfl (Nat.le_of_ble_eq_true rfl) ?_
  intro p e s m below meth c hx hb hml hr hlk hts hown hnm hK hH ls hl
  have hC := (⟨hx, hb, hml, hown, hts⟩ : CallFix p m c cX1_trace 1 s _ wsX1_trace RX1)
  have hin : ∀ w ∈ wsX10, w ∈ wsX1_trace := by decide +kernel
  have L62 : Cond.fieldLink RX1 62 "TwoColoursModel" "trace" "J" ∈ wsX1_trace := by decide +kernel
  have hl : lv_has ls 1 [(0, .ref (q 0))] := hl
  refine lv_aload_n hx hb dX1_trace_0 rfl (lv_at hl 0 rfl) ?_
  refine gM_trace hx hb hts hin hown hK hP L62 dX1_trace_1 ?_
  exact rL hx hb hr hlk hH dX1_trace_4 rfl

theorem hdX1_keeps : yX1_keeps.cls = RX1 ∧ yX1_keeps.cls ≠ "java/lang/invoke/MethodHandle" ∧ yX1_keeps.cls ≠ "java/lang/invoke/VarHandle" ∧ (parseMethodDescriptor yX1_keeps.desc).map (fun d => d.parameters.length) = some 1 := by decide +kernel
set_option maxHeartbeats 4000000 in
set_option maxRecDepth 100000 in
theorem kX1_keeps {l : Launch} {D : va_G} {cy : ClassId} {H : Heap} {q : Nat → Nat} {ff fm fw : Int32} {ak : Int64} {ta gh kd fa fb sx sy mb co : Nat → Int32} {N K S : Nat}  (hP : va_P D vwCl (wM cy q (nI N) (nI K) (nI S) ff fm fw ak ta gh kd fa fb sx sy mb co) H) (k : Int32) (hN : N ≤ 12) : Met l yX1_keeps wsX1_keeps { frames := 0, cells := 0, slots := 0, locals := 0 } (pcK D cy H [.ref (q 0), .int k]) (QcRead (b2 (kpF gh k N = true))) 0 0 (fun _ => False) := by
  refine mV 4 (by decide) rfl (Nat.le_of_ble_eq_true rfl) ?_
  intro p e s m below meth c hx hb hml hr hlk hts hown hnm hK hH ls hl
  have hC := (⟨hx, hb, hml, hown, hts⟩ : CallFix p m c cX1_keeps 4 s _ wsX1_keeps RX1)
  have hin : ∀ w ∈ wsX10, w ∈ wsX1_keeps := by decide +kernel
  have L7 : Cond.fieldLink RX1 7 "TwoColoursModel" "n" "I" ∈ wsX1_keeps := by decide +kernel
  have L17 : Cond.fieldLink RX1 17 "TwoColoursModel" "held" "[I" ∈ wsX1_keeps := by decide +kernel
  have hl : lv_has ls 4 [(0, .ref (q 0)), (1, .int (k))] := hl
  refine lv_iconst (v := 1) hx hb dX1_keeps_0 (by decide) ?_
  refine lv_istore_n (lv' := [(2, .int (1)), (0, .ref (q 0)), (1, .int (k))]) hx hb dX1_keeps_1 rfl hl (by decide) rfl (fun ls hl => ?_)
  refine lv_iconst (v := 0) hx hb dX1_keeps_2 (by decide) ?_
  refine lv_istore_n (lv' := [(3, .int (0)), (2, .int (1)), (0, .ref (q 0)), (1, .int (k))]) hx hb dX1_keeps_3 rfl hl (by decide) rfl (fun ls hl => ?_)
  refine lpP 4 (fun i ls => lv_has ls 4 [(0, .ref (q 0)), (1, .int (k)), (2, .int (b2 (kpF gh k i = true))), (3, .int (nI i))]) (N) ?_ (0) ls (by omega) (lv_sub hl [2, 3, 1, 0] rfl)
  intro i ls hi hl ih_4
  refine lv_iload_n hx hb dX1_keeps_4 rfl (lv_at hl 3 rfl) ?_
  refine lv_aload_n hx hb dX1_keeps_5 rfl (lv_at hl 0 rfl) ?_
  refine gM_n hx hb hts hin hown hK hP L7 dX1_keeps_6 ?_
  refine lv_icmp_ge (tgt := 51) hx hb dX1_keeps_9 (by decide) (fun cz1 => ?_) (fun cz1 => ?_)
  · have cz1 : N ≤ i := (nI_leI (a := N) (b := i) (by omega) (by omega)).mp cz1
    refine lv_iload_n hx hb dX1_keeps_51 rfl (lv_at hl 2 rfl) ?_
    exact rZ hx hb hr hlk hH dX1_keeps_52 b2_nar (by rw [show i = N by omega])
  · have cz1 : ¬ N ≤ i := fun h => cz1 ((nI_leI (a := N) (b := i) (by omega) (by omega)).mpr h)
    refine lv_iload_n hx hb dX1_keeps_12 rfl (lv_at hl 2 rfl) ?_
    refine lv_if_eq (tgt := 43) hx hb dX1_keeps_13 (by decide) (fun cz2 => ?_) (fun cz2 => ?_)
    · have cz2 := b2_0 cz2
      refine lv_iconst (v := 0) hx hb dX1_keeps_43 (by decide) ?_
      refine lv_istore_n (lv' := [(2, .int (0)), (0, .ref (q 0)), (1, .int (k)), (3, .int (nI i))]) hx hb dX1_keeps_44 rfl hl (by decide) rfl (fun ls hl => ?_)
      refine lv_iinc (v := nI (i + 1)) (lv' := [(3, .int (nI (i + 1))), (2, .int (0)), (0, .ref (q 0)), (1, .int (k))]) hx hb dX1_keeps_45 hl (k := 3) rfl (nI_1 _) (by decide) rfl (fun ls hl => ?_)
      refine lv_goto (tgt := 4) hx hb dX1_keeps_48 (by decide) ?_
      exact ih_4 _ (by omega) (by rw [b2_eq0 (kpF_n cz2)]; exact lv_sub hl [2, 3, 1, 0] rfl)
    · have cz2 := b2_1 cz2
      refine lv_aload_n hx hb dX1_keeps_16 rfl (lv_at hl 0 rfl) ?_
      refine gM_held hx hb hts hin hown hK hP L17 dX1_keeps_17 ?_
      refine lv_iload_n hx hb dX1_keeps_20 rfl (lv_at hl 3 rfl) ?_
      refine ldM_held (j := i) hx hb hK hP rfl (by omega) dX1_keeps_21 ?_
      refine lv_if_lt (tgt := 39) hx hb dX1_keeps_22 (by decide) (fun cz3 => ?_) (fun cz3 => ?_)
      · refine lv_iconst (v := 1) hx hb dX1_keeps_39 (by decide) ?_
        refine lv_goto (tgt := 44) hx hb dX1_keeps_40 (by decide) ?_
        refine lv_istore_n (lv' := [(2, .int (1)), (0, .ref (q 0)), (1, .int (k)), (3, .int (nI i))]) hx hb dX1_keeps_44 rfl hl (by decide) rfl (fun ls hl => ?_)
        refine lv_iinc (v := nI (i + 1)) (lv' := [(3, .int (nI (i + 1))), (2, .int (1)), (0, .ref (q 0)), (1, .int (k))]) hx hb dX1_keeps_45 hl (k := 3) rfl (nI_1 _) (by decide) rfl (fun ls hl => ?_)
        refine lv_goto (tgt := 4) hx hb dX1_keeps_48 (by decide) ?_
        exact ih_4 _ (by omega) (by rw [b2_eq1 (kpF_l cz2 cz3)]; exact lv_sub hl [2, 3, 1, 0] rfl)
      · refine lv_aload_n hx hb dX1_keeps_25 rfl (lv_at hl 0 rfl) ?_
        refine gM_held hx hb hts hin hown hK hP L17 dX1_keeps_26 ?_
        refine lv_iload_n hx hb dX1_keeps_29 rfl (lv_at hl 3 rfl) ?_
        refine ldM_held (j := i) hx hb hK hP rfl (by omega) dX1_keeps_30 ?_
        refine lv_iload_n hx hb dX1_keeps_31 rfl (lv_at hl 1 rfl) ?_
        refine lv_iload_n hx hb dX1_keeps_32 rfl (lv_at hl 3 rfl) ?_
        refine lv_ishr hx hb dX1_keeps_33 ?_
        refine lv_iconst (v := 1) hx hb dX1_keeps_34 (by decide) ?_
        refine lv_iand hx hb dX1_keeps_35 ?_
        refine lv_icmp_ne (tgt := 43) hx hb dX1_keeps_36 (by decide) (fun cz4 => ?_) (fun cz4 => ?_)
        · refine lv_iconst (v := 0) hx hb dX1_keeps_43 (by decide) ?_
          refine lv_istore_n (lv' := [(2, .int (0)), (0, .ref (q 0)), (1, .int (k)), (3, .int (nI i))]) hx hb dX1_keeps_44 rfl hl (by decide) rfl (fun ls hl => ?_)
          refine lv_iinc (v := nI (i + 1)) (lv' := [(3, .int (nI (i + 1))), (2, .int (0)), (0, .ref (q 0)), (1, .int (k))]) hx hb dX1_keeps_45 hl (k := 3) rfl (nI_1 _) (by decide) rfl (fun ls hl => ?_)
          refine lv_goto (tgt := 4) hx hb dX1_keeps_48 (by decide) ?_
          exact ih_4 _ (by omega) (by rw [b2_eq0 (kpF_f cz3 cz4)]; exact lv_sub hl [2, 3, 1, 0] rfl)
        · refine lv_iconst (v := 1) hx hb dX1_keeps_39 (by decide) ?_
          refine lv_goto (tgt := 44) hx hb dX1_keeps_40 (by decide) ?_
          refine lv_istore_n (lv' := [(2, .int (1)), (0, .ref (q 0)), (1, .int (k)), (3, .int (nI i))]) hx hb dX1_keeps_44 rfl hl (by decide) rfl (fun ls hl => ?_)
          refine lv_iinc (v := nI (i + 1)) (lv' := [(3, .int (nI (i + 1))), (2, .int (1)), (0, .ref (q 0)), (1, .int (k))]) hx hb dX1_keeps_45 hl (k := 3) rfl (nI_1 _) (by decide) rfl (fun ls hl => ?_)
          refine lv_goto (tgt := 4) hx hb dX1_keeps_48 (by decide) ?_
          exact ih_4 _ (by omega) (by rw [b2_eq1 (kpF_e cz2 cz4)]; exact lv_sub hl [2, 3, 1, 0] rfl)
end
