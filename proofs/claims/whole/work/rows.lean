section
-- ===== PART A: goes FIRST, ahead of the names: the tables' words, and 'selects' of the private methods out of them =====
/-- a private method of a class that the tables say can be made, by its rows of tables_1 -/
def lw_okq (q : MethodName × Nat) : Prop := (q.1.cls ≠ "java/lang/invoke/MethodHandle" ∧ q.1.cls ≠ "java/lang/invoke/VarHandle") ∧ Cond.instantiable q.1.cls q.2 ∈ tables_1 ∧ Cond.privateMethod q.1 ∈ tables_1 ∧ Cond.instanceMethod q.1 ∈ tables_1
theorem lw_p0 : lw_okq (⟨"FirstSigns$Norms", "byLetter", "(LFirstSigns$Table;II)I"⟩, 1) := ⟨⟨by decide +kernel, by decide +kernel⟩, List.mem_of_getElem? (i := 89) (by decide +kernel), List.mem_of_getElem? (i := 264) (by decide +kernel), List.mem_of_getElem? (i := 265) (by decide +kernel)⟩
theorem lw_p1 : lw_okq (⟨"FirstSigns$Norms", "of", "(I)I"⟩, 1) := ⟨⟨by decide +kernel, by decide +kernel⟩, List.mem_of_getElem? (i := 89) (by decide +kernel), List.mem_of_getElem? (i := 273) (by decide +kernel), List.mem_of_getElem? (i := 274) (by decide +kernel)⟩
theorem lw_p2 : lw_okq (⟨"FirstSigns", "leastWord", "(II)J"⟩, 8) := ⟨⟨by decide +kernel, by decide +kernel⟩, List.mem_of_getElem? (i := 15) (by decide +kernel), List.mem_of_getElem? (i := 285) (by decide +kernel), List.mem_of_getElem? (i := 286) (by decide +kernel)⟩
theorem lw_p3 : lw_okq (⟨"FirstSigns$Counts", "byRules", "(LFirstSigns$Table;II)I"⟩, 2) := ⟨⟨by decide +kernel, by decide +kernel⟩, List.mem_of_getElem? (i := 99) (by decide +kernel), List.mem_of_getElem? (i := 300) (by decide +kernel), List.mem_of_getElem? (i := 301) (by decide +kernel)⟩
theorem lw_p4 : lw_okq (⟨"FirstSigns$Counts", "addSign", "(II)V"⟩, 2) := ⟨⟨by decide +kernel, by decide +kernel⟩, List.mem_of_getElem? (i := 99) (by decide +kernel), List.mem_of_getElem? (i := 310) (by decide +kernel), List.mem_of_getElem? (i := 311) (by decide +kernel)⟩
theorem lw_p5 : lw_okq (⟨"FirstSigns", "goesThrough", "(III)Z"⟩, 8) := ⟨⟨by decide +kernel, by decide +kernel⟩, List.mem_of_getElem? (i := 15) (by decide +kernel), List.mem_of_getElem? (i := 323) (by decide +kernel), List.mem_of_getElem? (i := 324) (by decide +kernel)⟩
theorem lw_p6 : lw_okq (⟨"FirstSigns", "firstsOfRules", "(I)I"⟩, 8) := ⟨⟨by decide +kernel, by decide +kernel⟩, List.mem_of_getElem? (i := 15) (by decide +kernel), List.mem_of_getElem? (i := 335) (by decide +kernel), List.mem_of_getElem? (i := 336) (by decide +kernel)⟩
theorem lw_p7 : lw_okq (⟨"FirstSigns", "reduceBoth", "(II)V"⟩, 8) := ⟨⟨by decide +kernel, by decide +kernel⟩, List.mem_of_getElem? (i := 15) (by decide +kernel), List.mem_of_getElem? (i := 382) (by decide +kernel), List.mem_of_getElem? (i := 383) (by decide +kernel)⟩
theorem lw_p8 : lw_okq (⟨"FirstSigns", "breakingLetter", "(I)I"⟩, 8) := ⟨⟨by decide +kernel, by decide +kernel⟩, List.mem_of_getElem? (i := 15) (by decide +kernel), List.mem_of_getElem? (i := 409) (by decide +kernel), List.mem_of_getElem? (i := 410) (by decide +kernel)⟩
theorem lw_p9 : lw_okq (⟨"FirstSigns", "isBrokenBy", "(III)Z"⟩, 8) := ⟨⟨by decide +kernel, by decide +kernel⟩, List.mem_of_getElem? (i := 15) (by decide +kernel), List.mem_of_getElem? (i := 413) (by decide +kernel), List.mem_of_getElem? (i := 414) (by decide +kernel)⟩
theorem lw_p10 : lw_okq (⟨"FirstSigns", "brokenClaims", "()I"⟩, 8) := ⟨⟨by decide +kernel, by decide +kernel⟩, List.mem_of_getElem? (i := 15) (by decide +kernel), List.mem_of_getElem? (i := 424) (by decide +kernel), List.mem_of_getElem? (i := 425) (by decide +kernel)⟩
theorem lw_p11 : lw_okq (⟨"FirstSigns", "removeClaims", "(I)V"⟩, 8) := ⟨⟨by decide +kernel, by decide +kernel⟩, List.mem_of_getElem? (i := 15) (by decide +kernel), List.mem_of_getElem? (i := 428) (by decide +kernel), List.mem_of_getElem? (i := 429) (by decide +kernel)⟩
theorem lw_p12 : lw_okq (⟨"FirstSigns", "mightFrom", "(II)I"⟩, 8) := ⟨⟨by decide +kernel, by decide +kernel⟩, List.mem_of_getElem? (i := 15) (by decide +kernel), List.mem_of_getElem? (i := 442) (by decide +kernel), List.mem_of_getElem? (i := 443) (by decide +kernel)⟩
theorem lw_p13 : lw_okq (⟨"FirstSignsModel", "keeps", "()V"⟩, 14) := ⟨⟨by decide +kernel, by decide +kernel⟩, List.mem_of_getElem? (i := 477) (by decide +kernel), List.mem_of_getElem? (i := 546) (by decide +kernel), List.mem_of_getElem? (i := 547) (by decide +kernel)⟩
theorem lw_p14 : lw_okq (⟨"FirstSignsModel", "ruleOf", "(II)I"⟩, 14) := ⟨⟨by decide +kernel, by decide +kernel⟩, List.mem_of_getElem? (i := 477) (by decide +kernel), List.mem_of_getElem? (i := 550) (by decide +kernel), List.mem_of_getElem? (i := 551) (by decide +kernel)⟩
theorem lw_p15 : lw_okq (⟨"FirstSignsModel", "readMany", "(IJI)I"⟩, 14) := ⟨⟨by decide +kernel, by decide +kernel⟩, List.mem_of_getElem? (i := 477) (by decide +kernel), List.mem_of_getElem? (i := 562) (by decide +kernel), List.mem_of_getElem? (i := 563) (by decide +kernel)⟩
def lw_privs_1 : List (MethodName × Nat) := [(⟨"FirstSigns$Norms", "byLetter", "(LFirstSigns$Table;II)I"⟩, 1), (⟨"FirstSigns$Norms", "of", "(I)I"⟩, 1), (⟨"FirstSigns", "leastWord", "(II)J"⟩, 8), (⟨"FirstSigns$Counts", "byRules", "(LFirstSigns$Table;II)I"⟩, 2), (⟨"FirstSigns$Counts", "addSign", "(II)V"⟩, 2), (⟨"FirstSigns", "goesThrough", "(III)Z"⟩, 8), (⟨"FirstSigns", "firstsOfRules", "(I)I"⟩, 8), (⟨"FirstSigns", "reduceBoth", "(II)V"⟩, 8), (⟨"FirstSigns", "breakingLetter", "(I)I"⟩, 8), (⟨"FirstSigns", "isBrokenBy", "(III)Z"⟩, 8), (⟨"FirstSigns", "brokenClaims", "()I"⟩, 8), (⟨"FirstSigns", "removeClaims", "(I)V"⟩, 8), (⟨"FirstSigns", "mightFrom", "(II)I"⟩, 8), (⟨"FirstSignsModel", "keeps", "()V"⟩, 14), (⟨"FirstSignsModel", "ruleOf", "(II)I"⟩, 14), (⟨"FirstSignsModel", "readMany", "(IJI)I"⟩, 14)]
theorem lw_r1 : ∀ q ∈ lw_privs_1, lw_okq q := List.forall_mem_cons.mpr ⟨lw_p0, List.forall_mem_cons.mpr ⟨lw_p1, List.forall_mem_cons.mpr ⟨lw_p2, List.forall_mem_cons.mpr ⟨lw_p3, List.forall_mem_cons.mpr ⟨lw_p4, List.forall_mem_cons.mpr ⟨lw_p5, List.forall_mem_cons.mpr ⟨lw_p6, List.forall_mem_cons.mpr ⟨lw_p7, List.forall_mem_cons.mpr ⟨lw_p8, List.forall_mem_cons.mpr ⟨lw_p9, List.forall_mem_cons.mpr ⟨lw_p10, List.forall_mem_cons.mpr ⟨lw_p11, List.forall_mem_cons.mpr ⟨lw_p12, List.forall_mem_cons.mpr ⟨lw_p13, List.forall_mem_cons.mpr ⟨lw_p14, List.forall_mem_cons.mpr ⟨lw_p15, fun _ h => absurd h List.not_mem_nil⟩⟩⟩⟩⟩⟩⟩⟩⟩⟩⟩⟩⟩⟩⟩⟩
theorem lw_p16 : lw_okq (⟨"FirstSignsModel", "stacks", "(I)V"⟩, 14) := ⟨⟨by decide +kernel, by decide +kernel⟩, List.mem_of_getElem? (i := 477) (by decide +kernel), List.mem_of_getElem? (i := 566) (by decide +kernel), List.mem_of_getElem? (i := 567) (by decide +kernel)⟩
theorem lw_p17 : lw_okq (⟨"FirstSignsModel", "reads", "(I)Z"⟩, 14) := ⟨⟨by decide +kernel, by decide +kernel⟩, List.mem_of_getElem? (i := 477) (by decide +kernel), List.mem_of_getElem? (i := 573) (by decide +kernel), List.mem_of_getElem? (i := 574) (by decide +kernel)⟩
theorem lw_p18 : lw_okq (⟨"FirstSignsModel", "findNorms", "()V"⟩, 14) := ⟨⟨by decide +kernel, by decide +kernel⟩, List.mem_of_getElem? (i := 477) (by decide +kernel), List.mem_of_getElem? (i := 581) (by decide +kernel), List.mem_of_getElem? (i := 582) (by decide +kernel)⟩
theorem lw_p19 : lw_okq (⟨"FirstSignsModel", "normOf", "(I)I"⟩, 14) := ⟨⟨by decide +kernel, by decide +kernel⟩, List.mem_of_getElem? (i := 477) (by decide +kernel), List.mem_of_getElem? (i := 585) (by decide +kernel), List.mem_of_getElem? (i := 586) (by decide +kernel)⟩
theorem lw_p20 : lw_okq (⟨"FirstSignsModel", "countsSigns", "(I)V"⟩, 14) := ⟨⟨by decide +kernel, by decide +kernel⟩, List.mem_of_getElem? (i := 477) (by decide +kernel), List.mem_of_getElem? (i := 599) (by decide +kernel), List.mem_of_getElem? (i := 600) (by decide +kernel)⟩
theorem lw_p21 : lw_okq (⟨"FirstSignsModel", "countsRow", "(II)V"⟩, 14) := ⟨⟨by decide +kernel, by decide +kernel⟩, List.mem_of_getElem? (i := 477) (by decide +kernel), List.mem_of_getElem? (i := 603) (by decide +kernel), List.mem_of_getElem? (i := 604) (by decide +kernel)⟩
theorem lw_p22 : lw_okq (⟨"FirstSignsModel", "is", "(IJII)Z"⟩, 14) := ⟨⟨by decide +kernel, by decide +kernel⟩, List.mem_of_getElem? (i := 477) (by decide +kernel), List.mem_of_getElem? (i := 614) (by decide +kernel), List.mem_of_getElem? (i := 615) (by decide +kernel)⟩
theorem lw_p23 : lw_okq (⟨"FirstSignsModel", "comesFirst", "(I)I"⟩, 14) := ⟨⟨by decide +kernel, by decide +kernel⟩, List.mem_of_getElem? (i := 477) (by decide +kernel), List.mem_of_getElem? (i := 622) (by decide +kernel), List.mem_of_getElem? (i := 623) (by decide +kernel)⟩
theorem lw_p24 : lw_okq (⟨"FirstSignsModel", "claimOf", "(I)I"⟩, 14) := ⟨⟨by decide +kernel, by decide +kernel⟩, List.mem_of_getElem? (i := 477) (by decide +kernel), List.mem_of_getElem? (i := 636) (by decide +kernel), List.mem_of_getElem? (i := 637) (by decide +kernel)⟩
theorem lw_p25 : lw_okq (⟨"FirstSignsModel", "reducesBoth", "(II)V"⟩, 14) := ⟨⟨by decide +kernel, by decide +kernel⟩, List.mem_of_getElem? (i := 477) (by decide +kernel), List.mem_of_getElem? (i := 648) (by decide +kernel), List.mem_of_getElem? (i := 649) (by decide +kernel)⟩
theorem lw_p26 : lw_okq (⟨"FirstSignsModel", "reduces", "([II)I"⟩, 14) := ⟨⟨by decide +kernel, by decide +kernel⟩, List.mem_of_getElem? (i := 477) (by decide +kernel), List.mem_of_getElem? (i := 655) (by decide +kernel), List.mem_of_getElem? (i := 656) (by decide +kernel)⟩
theorem lw_p27 : lw_okq (⟨"FirstSignsModel", "areAlike", "()Z"⟩, 14) := ⟨⟨by decide +kernel, by decide +kernel⟩, List.mem_of_getElem? (i := 477) (by decide +kernel), List.mem_of_getElem? (i := 663) (by decide +kernel), List.mem_of_getElem? (i := 664) (by decide +kernel)⟩
theorem lw_p28 : lw_okq (⟨"FirstSignsModel", "alikeFrom", "(Z)I"⟩, 14) := ⟨⟨by decide +kernel, by decide +kernel⟩, List.mem_of_getElem? (i := 477) (by decide +kernel), List.mem_of_getElem? (i := 667) (by decide +kernel), List.mem_of_getElem? (i := 668) (by decide +kernel)⟩
theorem lw_p29 : lw_okq (⟨"FirstSignsModel", "brokenBy", "(I)I"⟩, 14) := ⟨⟨by decide +kernel, by decide +kernel⟩, List.mem_of_getElem? (i := 477) (by decide +kernel), List.mem_of_getElem? (i := 679) (by decide +kernel), List.mem_of_getElem? (i := 680) (by decide +kernel)⟩
theorem lw_p30 : lw_okq (⟨"FirstSignsModel", "breaks", "(II)Z"⟩, 14) := ⟨⟨by decide +kernel, by decide +kernel⟩, List.mem_of_getElem? (i := 477) (by decide +kernel), List.mem_of_getElem? (i := 683) (by decide +kernel), List.mem_of_getElem? (i := 684) (by decide +kernel)⟩
theorem lw_p31 : lw_okq (⟨"FirstSignsModel", "brokenNow", "()I"⟩, 14) := ⟨⟨by decide +kernel, by decide +kernel⟩, List.mem_of_getElem? (i := 477) (by decide +kernel), List.mem_of_getElem? (i := 691) (by decide +kernel), List.mem_of_getElem? (i := 692) (by decide +kernel)⟩
def lw_privs_2 : List (MethodName × Nat) := [(⟨"FirstSignsModel", "stacks", "(I)V"⟩, 14), (⟨"FirstSignsModel", "reads", "(I)Z"⟩, 14), (⟨"FirstSignsModel", "findNorms", "()V"⟩, 14), (⟨"FirstSignsModel", "normOf", "(I)I"⟩, 14), (⟨"FirstSignsModel", "countsSigns", "(I)V"⟩, 14), (⟨"FirstSignsModel", "countsRow", "(II)V"⟩, 14), (⟨"FirstSignsModel", "is", "(IJII)Z"⟩, 14), (⟨"FirstSignsModel", "comesFirst", "(I)I"⟩, 14), (⟨"FirstSignsModel", "claimOf", "(I)I"⟩, 14), (⟨"FirstSignsModel", "reducesBoth", "(II)V"⟩, 14), (⟨"FirstSignsModel", "reduces", "([II)I"⟩, 14), (⟨"FirstSignsModel", "areAlike", "()Z"⟩, 14), (⟨"FirstSignsModel", "alikeFrom", "(Z)I"⟩, 14), (⟨"FirstSignsModel", "brokenBy", "(I)I"⟩, 14), (⟨"FirstSignsModel", "breaks", "(II)Z"⟩, 14), (⟨"FirstSignsModel", "brokenNow", "()I"⟩, 14)]
theorem lw_r2 : ∀ q ∈ lw_privs_2, lw_okq q := List.forall_mem_cons.mpr ⟨lw_p16, List.forall_mem_cons.mpr ⟨lw_p17, List.forall_mem_cons.mpr ⟨lw_p18, List.forall_mem_cons.mpr ⟨lw_p19, List.forall_mem_cons.mpr ⟨lw_p20, List.forall_mem_cons.mpr ⟨lw_p21, List.forall_mem_cons.mpr ⟨lw_p22, List.forall_mem_cons.mpr ⟨lw_p23, List.forall_mem_cons.mpr ⟨lw_p24, List.forall_mem_cons.mpr ⟨lw_p25, List.forall_mem_cons.mpr ⟨lw_p26, List.forall_mem_cons.mpr ⟨lw_p27, List.forall_mem_cons.mpr ⟨lw_p28, List.forall_mem_cons.mpr ⟨lw_p29, List.forall_mem_cons.mpr ⟨lw_p30, List.forall_mem_cons.mpr ⟨lw_p31, fun _ h => absurd h List.not_mem_nil⟩⟩⟩⟩⟩⟩⟩⟩⟩⟩⟩⟩⟩⟩⟩⟩
theorem lw_p32 : lw_okq (⟨"FirstSignsModel", "manyTold", "(II)I"⟩, 14) := ⟨⟨by decide +kernel, by decide +kernel⟩, List.mem_of_getElem? (i := 477) (by decide +kernel), List.mem_of_getElem? (i := 710) (by decide +kernel), List.mem_of_getElem? (i := 711) (by decide +kernel)⟩
theorem lw_p33 : lw_okq (⟨"FirstSignsModel", "manyWithWord", "()I"⟩, 14) := ⟨⟨by decide +kernel, by decide +kernel⟩, List.mem_of_getElem? (i := 477) (by decide +kernel), List.mem_of_getElem? (i := 714) (by decide +kernel), List.mem_of_getElem? (i := 715) (by decide +kernel)⟩
def lw_privs_3 : List (MethodName × Nat) := [(⟨"FirstSignsModel", "manyTold", "(II)I"⟩, 14), (⟨"FirstSignsModel", "manyWithWord", "()I"⟩, 14)]
theorem lw_r3 : ∀ q ∈ lw_privs_3, lw_okq q := List.forall_mem_cons.mpr ⟨lw_p32, List.forall_mem_cons.mpr ⟨lw_p33, fun _ h => absurd h List.not_mem_nil⟩⟩
def lw_privs : List (MethodName × Nat) := lw_privs_1 ++ (lw_privs_2 ++ (lw_privs_3))
def lw_tbl : List Cond := k2_sels lw_privs ++ tables_1
theorem lw_privs_ok : ∀ q ∈ lw_privs, lw_okq q := by
  show ∀ q ∈ lw_privs_1 ++ (lw_privs_2 ++ (lw_privs_3)), lw_okq q
  exact List.forall_mem_append.mpr ⟨lw_r1, List.forall_mem_append.mpr ⟨lw_r2, lw_r3⟩⟩
end
section
/-! ===== BEGIN words of one list among another's, by their places ===== -/
theorem goodIn_r {big : List Cond} (ws : List Cond) (ps : List Nat) (hp : ws = ps.filterMap (fun i => big[i]?)) (h : ws.all goodWord = true) : GoodIn big ws := by
  intro w hw
  have h1 := List.all_eq_true.mp h w hw
  rw [hp] at hw
  obtain ⟨i, -, hi⟩ := List.mem_filterMap.mp hw
  have hm : w ∈ big := by first | exact List.mem_of_getElem? hi | exact List.getElem?_mem hi
  exact ⟨hm, good_of_word h1⟩
theorem goodIn_app {big a b : List Cond} (ha : GoodIn big a) (hb : GoodIn big b) : GoodIn big (a ++ b) := fun w h => (List.mem_append.mp h).elim (ha w) (hb w)
theorem goodIn_ca {big a b : List Cond} {c : Cond} (ha : GoodIn big (c :: a)) (hb : GoodIn big b) : GoodIn big (c :: (a ++ b)) := fun w h => (List.mem_cons.mp h).elim (fun e => ha w (List.mem_cons.mpr (Or.inl e))) (fun h => (List.mem_append.mp h).elim (fun h => ha w (List.mem_cons.mpr (Or.inr h))) (hb w))
theorem goodIn_sub {big ws : List Cond} (hm : ∀ w ∈ ws, w ∈ big) (h : ws.all goodWord = true) : GoodIn big ws := fun w hw => ⟨hm w hw, good_of_word (List.all_eq_true.mp h w hw)⟩
/-! ===== END ===== -/

/-! ===== BEGIN printed: names, fields, word lists, decode rows ===== -/
def RX0 : String := "FirstSigns$Counts"
def TX0 : u_T := fun k => match k with
  | 0 => ("FirstSigns$Counts", "ofSign", "[[I", true)
  | _ => ("FirstSigns$Counts", "ofPart", "[I", true)
def tyX0 : Nat → FieldType := fun k => match k with
  | 0 => .array (.array .int)
  | _ => .array .int
abbrev wsX00 : List Cond := u_ws RX0 TX0 2
theorem nmX0 : ∀ a, a < 2 → ∀ b, b < 2 → a ≠ b → (TX0 a).2.1 ≠ (TX0 b).2.1 := by decide +kernel
theorem tyX0_ok : ∀ k, k < 2 → parseFieldDescriptor (TX0 k).2.2.1 = some (tyX0 k) := by decide +kernel
abbrev cX0_init : ByteArray := prog_2_method_1_code
def yX0_init : MethodName := ⟨RX0, "<init>", "()V"⟩
abbrev cX0_find : ByteArray := prog_2_method_2_code
def yX0_find : MethodName := ⟨RX0, "find", "(LFirstSigns$Table;I)V"⟩
abbrev cX0_ofRow : ByteArray := prog_2_method_3_code
def yX0_ofRow : MethodName := ⟨RX0, "ofRow", "(II)I"⟩
abbrev cX0_byRules : ByteArray := prog_2_method_4_code
def yX0_byRules : MethodName := ⟨RX0, "byRules", "(LFirstSigns$Table;II)I"⟩
abbrev cX0_addSign : ByteArray := prog_2_method_5_code
def yX0_addSign : MethodName := ⟨RX0, "addSign", "(II)V"⟩
def RX1 : String := "FirstSigns$Forms"
def TX1 : u_T := fun k => match k with
  | _ => ("FirstSigns$Forms", "ofSign", "[LFirstSigns$Row;", true)
def tyX1 : Nat → FieldType := fun k => match k with
  | _ => .array (.object "FirstSigns$Row")
abbrev wsX10 : List Cond := u_ws RX1 TX1 1
theorem nmX1 : ∀ a, a < 1 → ∀ b, b < 1 → a ≠ b → (TX1 a).2.1 ≠ (TX1 b).2.1 := by decide +kernel
theorem tyX1_ok : ∀ k, k < 1 → parseFieldDescriptor (TX1 k).2.2.1 = some (tyX1 k) := by decide +kernel
abbrev cX1_init : ByteArray := prog_3_method_1_code
def yX1_init : MethodName := ⟨RX1, "<init>", "()V"⟩
abbrev cX1_find : ByteArray := prog_3_method_2_code
def yX1_find : MethodName := ⟨RX1, "find", "(LFirstSigns$Table;)V"⟩
abbrev cX1_putAhead : ByteArray := prog_3_method_3_code
def yX1_putAhead : MethodName := ⟨RX1, "putAhead", "(LFirstSigns$Row;I)V"⟩
def RX2 : String := "FirstSigns$Norms"
def TX2 : u_T := fun k => match k with
  | _ => ("FirstSigns$Norms", "ofSign", "[I", true)
def tyX2 : Nat → FieldType := fun k => match k with
  | _ => .array .int
abbrev wsX20 : List Cond := u_ws RX2 TX2 1
theorem nmX2 : ∀ a, a < 1 → ∀ b, b < 1 → a ≠ b → (TX2 a).2.1 ≠ (TX2 b).2.1 := by decide +kernel
theorem tyX2_ok : ∀ k, k < 1 → parseFieldDescriptor (TX2 k).2.2.1 = some (tyX2 k) := by decide +kernel
abbrev cX2_init : ByteArray := prog_4_method_1_code
def yX2_init : MethodName := ⟨RX2, "<init>", "()V"⟩
abbrev cX2_find : ByteArray := prog_4_method_2_code
def yX2_find : MethodName := ⟨RX2, "find", "(LFirstSigns$Table;)V"⟩
abbrev cX2_ofRow : ByteArray := prog_4_method_3_code
def yX2_ofRow : MethodName := ⟨RX2, "ofRow", "(I)I"⟩
abbrev cX2_countFound : ByteArray := prog_4_method_4_code
def yX2_countFound : MethodName := ⟨RX2, "countFound", "()I"⟩
abbrev cX2_leastLetter : ByteArray := prog_4_method_5_code
def yX2_leastLetter : MethodName := ⟨RX2, "leastLetter", "(LFirstSigns$Table;I)I"⟩
abbrev cX2_firstsWithin : ByteArray := prog_4_method_6_code
def yX2_firstsWithin : MethodName := ⟨RX2, "firstsWithin", "(I)I"⟩
abbrev cX2_byLetter : ByteArray := prog_4_method_7_code
def yX2_byLetter : MethodName := ⟨RX2, "byLetter", "(LFirstSigns$Table;II)I"⟩
abbrev cX2_of : ByteArray := prog_4_method_8_code
def yX2_of : MethodName := ⟨RX2, "of", "(I)I"⟩
def RX3 : String := "FirstSigns$Past"
def TX3 : u_T := fun k => match k with
  | 0 => ("FirstSigns$Past", "ahead", "[LFirstSigns$Table;", true)
  | 1 => ("FirstSigns$Past", "next", "I", false)
  | _ => ("FirstSigns$Past", "kept", "I", false)
def tyX3 : Nat → FieldType := fun k => match k with
  | 0 => .array (.object "FirstSigns$Table")
  | 1 => .int
  | _ => .int
abbrev wsX30 : List Cond := u_ws RX3 TX3 3
theorem nmX3 : ∀ a, a < 3 → ∀ b, b < 3 → a ≠ b → (TX3 a).2.1 ≠ (TX3 b).2.1 := by decide +kernel
theorem tyX3_ok : ∀ k, k < 3 → parseFieldDescriptor (TX3 k).2.2.1 = some (tyX3 k) := by decide +kernel
abbrev cX3_init : ByteArray := prog_5_method_1_code
def yX3_init : MethodName := ⟨RX3, "<init>", "()V"⟩
abbrev cX3_kept : ByteArray := prog_5_method_2_code
def yX3_kept : MethodName := ⟨RX3, "kept", "()I"⟩
abbrev cX3_keep : ByteArray := prog_5_method_3_code
def yX3_keep : MethodName := ⟨RX3, "keep", "(LFirstSigns$Table;)V"⟩
abbrev cX3_bringBack : ByteArray := prog_5_method_4_code
def yX3_bringBack : MethodName := ⟨RX3, "bringBack", "(LFirstSigns$Table;I)V"⟩
def RX4 : String := "FirstSigns$Reader"
def TX4 : u_T := fun k => match k with
  | 0 => ("FirstSigns$Reader", "left", "LFirstSigns$Row;", true)
  | _ => ("FirstSigns$Reader", "ahead", "LFirstSigns$Row;", true)
def tyX4 : Nat → FieldType := fun k => match k with
  | 0 => .object "FirstSigns$Row"
  | _ => .object "FirstSigns$Row"
abbrev wsX40 : List Cond := u_ws RX4 TX4 2
theorem nmX4 : ∀ a, a < 2 → ∀ b, b < 2 → a ≠ b → (TX4 a).2.1 ≠ (TX4 b).2.1 := by decide +kernel
theorem tyX4_ok : ∀ k, k < 2 → parseFieldDescriptor (TX4 k).2.2.1 = some (tyX4 k) := by decide +kernel
abbrev cX4_init : ByteArray := prog_6_method_1_code
def yX4_init : MethodName := ⟨RX4, "<init>", "()V"⟩
abbrev cX4_start : ByteArray := prog_6_method_2_code
def yX4_start : MethodName := ⟨RX4, "start", "(I)V"⟩
abbrev cX4_step : ByteArray := prog_6_method_3_code
def yX4_step : MethodName := ⟨RX4, "step", "(LFirstSigns$Table;I)Z"⟩
abbrev cX4_countRead : ByteArray := prog_6_method_4_code
def yX4_countRead : MethodName := ⟨RX4, "countRead", "(LFirstSigns$Table;IJ)I"⟩
abbrev cX4_readsToEnd : ByteArray := prog_6_method_5_code
def yX4_readsToEnd : MethodName := ⟨RX4, "readsToEnd", "()Z"⟩
def RX5 : String := "FirstSigns$Row"
def TX5 : u_T := fun k => match k with
  | 0 => ("FirstSigns$Row", "signs", "[I", true)
  | _ => ("FirstSigns$Row", "length", "I", false)
def tyX5 : Nat → FieldType := fun k => match k with
  | 0 => .array .int
  | _ => .int
abbrev wsX50 : List Cond := u_ws RX5 TX5 2
theorem nmX5 : ∀ a, a < 2 → ∀ b, b < 2 → a ≠ b → (TX5 a).2.1 ≠ (TX5 b).2.1 := by decide +kernel
theorem tyX5_ok : ∀ k, k < 2 → parseFieldDescriptor (TX5 k).2.2.1 = some (tyX5 k) := by decide +kernel
abbrev cX5_init : ByteArray := prog_7_method_1_code
def yX5_init : MethodName := ⟨RX5, "<init>", "(I)V"⟩
abbrev cX5_clear : ByteArray := prog_7_method_2_code
def yX5_clear : MethodName := ⟨RX5, "clear", "()V"⟩
abbrev cX5_size : ByteArray := prog_7_method_3_code
def yX5_size : MethodName := ⟨RX5, "size", "()I"⟩
abbrev cX5_fromFirst : ByteArray := prog_7_method_4_code
def yX5_fromFirst : MethodName := ⟨RX5, "fromFirst", "(I)I"⟩
abbrev cX5_fromLast : ByteArray := prog_7_method_5_code
def yX5_fromLast : MethodName := ⟨RX5, "fromLast", "(I)I"⟩
abbrev cX5_dropFirst : ByteArray := prog_7_method_6_code
def yX5_dropFirst : MethodName := ⟨RX5, "dropFirst", "()V"⟩
abbrev cX5_putFirst : ByteArray := prog_7_method_7_code
def yX5_putFirst : MethodName := ⟨RX5, "putFirst", "(I)V"⟩
abbrev cX5_putRowAhead : ByteArray := prog_7_method_8_code
def yX5_putRowAhead : MethodName := ⟨RX5, "putRowAhead", "(J)V"⟩
abbrev cX5_putAllAhead : ByteArray := prog_7_method_9_code
def yX5_putAllAhead : MethodName := ⟨RX5, "putAllAhead", "(LFirstSigns$Row;)V"⟩
abbrev cX5_sameFromFirst : ByteArray := prog_7_method_10_code
def yX5_sameFromFirst : MethodName := ⟨RX5, "sameFromFirst", "(LFirstSigns$Row;)I"⟩
abbrev cX5_sameFromLast : ByteArray := prog_7_method_11_code
def yX5_sameFromLast : MethodName := ⟨RX5, "sameFromLast", "(LFirstSigns$Row;)I"⟩
abbrev cX5_isSame : ByteArray := prog_7_method_12_code
def yX5_isSame : MethodName := ⟨RX5, "isSame", "(LFirstSigns$Row;)Z"⟩
def RX6 : String := "FirstSigns$Table"
def TX6 : u_T := fun k => match k with
  | 0 => ("FirstSigns$Table", "rules", "[I", true)
  | _ => ("FirstSigns$Table", "claims", "[I", true)
def tyX6 : Nat → FieldType := fun k => match k with
  | 0 => .array .int
  | _ => .array .int
abbrev wsX60 : List Cond := u_ws RX6 TX6 2
theorem nmX6 : ∀ a, a < 2 → ∀ b, b < 2 → a ≠ b → (TX6 a).2.1 ≠ (TX6 b).2.1 := by decide +kernel
theorem tyX6_ok : ∀ k, k < 2 → parseFieldDescriptor (TX6 k).2.2.1 = some (tyX6 k) := by decide +kernel
abbrev cX6_init : ByteArray := prog_8_method_1_code
def yX6_init : MethodName := ⟨RX6, "<init>", "()V"⟩
abbrev cX6_ruleOf : ByteArray := prog_8_method_2_code
def yX6_ruleOf : MethodName := ⟨RX6, "ruleOf", "(II)I"⟩
abbrev cX6_setRule : ByteArray := prog_8_method_3_code
def yX6_setRule : MethodName := ⟨RX6, "setRule", "(III)V"⟩
abbrev cX6_claimOf : ByteArray := prog_8_method_4_code
def yX6_claimOf : MethodName := ⟨RX6, "claimOf", "(I)I"⟩
abbrev cX6_setClaim : ByteArray := prog_8_method_5_code
def yX6_setClaim : MethodName := ⟨RX6, "setClaim", "(II)V"⟩
abbrev cX6_countRules : ByteArray := prog_8_method_6_code
def yX6_countRules : MethodName := ⟨RX6, "countRules", "()I"⟩
abbrev cX6_countClaims : ByteArray := prog_8_method_7_code
def yX6_countClaims : MethodName := ⟨RX6, "countClaims", "()I"⟩
abbrev cX6_countPresent : ByteArray := prog_8_method_8_code
def yX6_countPresent : MethodName := ⟨RX6, "countPresent", "([I)I"⟩
abbrev cX6_copyFrom : ByteArray := prog_8_method_9_code
def yX6_copyFrom : MethodName := ⟨RX6, "copyFrom", "(LFirstSigns$Table;)V"⟩
def RX7 : String := "FirstSigns"
def TX7 : u_T := fun k => match k with
  | 0 => ("FirstSigns", "table", "LFirstSigns$Table;", true)
  | 1 => ("FirstSigns", "past", "LFirstSigns$Past;", true)
  | 2 => ("FirstSigns", "reader", "LFirstSigns$Reader;", true)
  | 3 => ("FirstSigns", "norms", "LFirstSigns$Norms;", true)
  | 4 => ("FirstSigns", "counts", "LFirstSigns$Counts;", true)
  | 5 => ("FirstSigns", "forms", "LFirstSigns$Forms;", true)
  | 6 => ("FirstSigns", "one", "LFirstSigns$Row;", true)
  | _ => ("FirstSigns", "two", "LFirstSigns$Row;", true)
def tyX7 : Nat → FieldType := fun k => match k with
  | 0 => .object "FirstSigns$Table"
  | 1 => .object "FirstSigns$Past"
  | 2 => .object "FirstSigns$Reader"
  | 3 => .object "FirstSigns$Norms"
  | 4 => .object "FirstSigns$Counts"
  | 5 => .object "FirstSigns$Forms"
  | 6 => .object "FirstSigns$Row"
  | _ => .object "FirstSigns$Row"
abbrev wsX70 : List Cond := u_ws RX7 TX7 8
theorem nmX7 : ∀ a, a < 8 → ∀ b, b < 8 → a ≠ b → (TX7 a).2.1 ≠ (TX7 b).2.1 := by decide +kernel
theorem tyX7_ok : ∀ k, k < 8 → parseFieldDescriptor (TX7 k).2.2.1 = some (tyX7 k) := by decide +kernel
abbrev cX7_init : ByteArray := prog_1_method_1_code
def yX7_init : MethodName := ⟨RX7, "<init>", "()V"⟩
abbrev cX7_rule : ByteArray := prog_1_method_2_code
def yX7_rule : MethodName := ⟨RX7, "rule", "(III)I"⟩
abbrev cX7_ofRule : ByteArray := prog_1_method_3_code
def yX7_ofRule : MethodName := ⟨RX7, "ofRule", "(II)I"⟩
abbrev cX7_read : ByteArray := prog_1_method_4_code
def yX7_read : MethodName := ⟨RX7, "read", "(IJI)I"⟩
abbrev cX7_norm : ByteArray := prog_1_method_5_code
def yX7_norm : MethodName := ⟨RX7, "norm", "(I)I"⟩
abbrev cX7_least : ByteArray := prog_1_method_6_code
def yX7_least : MethodName := ⟨RX7, "least", "(I)J"⟩
abbrev cX7_words : ByteArray := prog_1_method_7_code
def yX7_words : MethodName := ⟨RX7, "words", "(II)I"⟩
abbrev cX7_parts : ByteArray := prog_1_method_8_code
def yX7_parts : MethodName := ⟨RX7, "parts", "(III)J"⟩
abbrev cX7_firsts : ByteArray := prog_1_method_9_code
def yX7_firsts : MethodName := ⟨RX7, "firsts", "(I)I"⟩
abbrev cX7_claim : ByteArray := prog_1_method_10_code
def yX7_claim : MethodName := ⟨RX7, "claim", "(II)I"⟩
abbrev cX7_ofClaim : ByteArray := prog_1_method_11_code
def yX7_ofClaim : MethodName := ⟨RX7, "ofClaim", "(I)I"⟩
abbrev cX7_reduced : ByteArray := prog_1_method_12_code
def yX7_reduced : MethodName := ⟨RX7, "reduced", "(II)I"⟩
abbrev cX7_alike : ByteArray := prog_1_method_13_code
def yX7_alike : MethodName := ⟨RX7, "alike", "(II)I"⟩
abbrev cX7_common : ByteArray := prog_1_method_14_code
def yX7_common : MethodName := ⟨RX7, "common", "(III)I"⟩
abbrev cX7_broken : ByteArray := prog_1_method_15_code
def yX7_broken : MethodName := ⟨RX7, "broken", "(I)I"⟩
abbrev cX7_settle : ByteArray := prog_1_method_16_code
def yX7_settle : MethodName := ⟨RX7, "settle", "()I"⟩
abbrev cX7_might : ByteArray := prog_1_method_17_code
def yX7_might : MethodName := ⟨RX7, "might", "(II)I"⟩
abbrev cX7_undo : ByteArray := prog_1_method_18_code
def yX7_undo : MethodName := ⟨RX7, "undo", "(I)I"⟩
abbrev cX7_many : ByteArray := prog_1_method_19_code
def yX7_many : MethodName := ⟨RX7, "many", "(I)I"⟩
abbrev cX7_isSign : ByteArray := prog_1_method_20_code
def yX7_isSign : MethodName := ⟨RX7, "isSign", "(I)Z"⟩
abbrev cX7_isLetter : ByteArray := prog_1_method_21_code
def yX7_isLetter : MethodName := ⟨RX7, "isLetter", "(I)Z"⟩
abbrev cX7_isRowOfSigns : ByteArray := prog_1_method_22_code
def yX7_isRowOfSigns : MethodName := ⟨RX7, "isRowOfSigns", "(I)Z"⟩
abbrev cX7_isRow : ByteArray := prog_1_method_23_code
def yX7_isRow : MethodName := ⟨RX7, "isRow", "(JII)Z"⟩
abbrev cX7_rowInOrder : ByteArray := prog_1_method_24_code
def yX7_rowInOrder : MethodName := ⟨RX7, "rowInOrder", "(II)I"⟩
abbrev cX7_leastWord : ByteArray := prog_1_method_25_code
def yX7_leastWord : MethodName := ⟨RX7, "leastWord", "(II)J"⟩
abbrev cX7_goesThrough : ByteArray := prog_1_method_26_code
def yX7_goesThrough : MethodName := ⟨RX7, "goesThrough", "(III)Z"⟩
abbrev cX7_firstsOfRules : ByteArray := prog_1_method_27_code
def yX7_firstsOfRules : MethodName := ⟨RX7, "firstsOfRules", "(I)I"⟩
abbrev cX7_reduceBoth : ByteArray := prog_1_method_28_code
def yX7_reduceBoth : MethodName := ⟨RX7, "reduceBoth", "(II)V"⟩
abbrev cX7_brokenClaims : ByteArray := prog_1_method_29_code
def yX7_brokenClaims : MethodName := ⟨RX7, "brokenClaims", "()I"⟩
abbrev cX7_removeClaims : ByteArray := prog_1_method_30_code
def yX7_removeClaims : MethodName := ⟨RX7, "removeClaims", "(I)V"⟩
abbrev cX7_breakingLetter : ByteArray := prog_1_method_31_code
def yX7_breakingLetter : MethodName := ⟨RX7, "breakingLetter", "(I)I"⟩
abbrev cX7_isBrokenBy : ByteArray := prog_1_method_32_code
def yX7_isBrokenBy : MethodName := ⟨RX7, "isBrokenBy", "(III)Z"⟩
abbrev cX7_firstUnit : ByteArray := prog_1_method_33_code
def yX7_firstUnit : MethodName := ⟨RX7, "firstUnit", "(I)I"⟩
abbrev cX7_mightFrom : ByteArray := prog_1_method_34_code
def yX7_mightFrom : MethodName := ⟨RX7, "mightFrom", "(II)I"⟩
def RX8 : String := "FirstSignsModel"
def TX8 : u_T := fun k => match k with
  | 0 => ("FirstSignsModel", "told", "[I", true)
  | 1 => ("FirstSignsModel", "changes", "I", false)
  | 2 => ("FirstSignsModel", "ahead", "[I", true)
  | 3 => ("FirstSignsModel", "stacked", "I", false)
  | 4 => ("FirstSignsModel", "stack", "[I", true)
  | 5 => ("FirstSignsModel", "norms", "[I", true)
  | 6 => ("FirstSignsModel", "wordsOf", "[I", true)
  | 7 => ("FirstSignsModel", "counted", "[I", true)
  | 8 => ("FirstSignsModel", "before", "[I", true)
  | 9 => ("FirstSignsModel", "oneMany", "I", false)
  | 10 => ("FirstSignsModel", "otherMany", "I", false)
  | 11 => ("FirstSignsModel", "one", "[I", true)
  | 12 => ("FirstSignsModel", "other", "[I", true)
  | _ => ("FirstSignsModel", "scratch", "[I", true)
def tyX8 : Nat → FieldType := fun k => match k with
  | 0 => .array .int
  | 1 => .int
  | 2 => .array .int
  | 3 => .int
  | 4 => .array .int
  | 5 => .array .int
  | 6 => .array .int
  | 7 => .array .int
  | 8 => .array .int
  | 9 => .int
  | 10 => .int
  | 11 => .array .int
  | 12 => .array .int
  | _ => .array .int
abbrev wsX80 : List Cond := u_ws RX8 TX8 14
theorem nmX8 : ∀ a, a < 14 → ∀ b, b < 14 → a ≠ b → (TX8 a).2.1 ≠ (TX8 b).2.1 := by decide +kernel
theorem tyX8_ok : ∀ k, k < 14 → parseFieldDescriptor (TX8 k).2.2.1 = some (tyX8 k) := by decide +kernel
abbrev cX8_init : ByteArray := prog_10_method_1_code
def yX8_init : MethodName := ⟨RX8, "<init>", "()V"⟩
abbrev cX8_within : ByteArray := prog_10_method_2_code
def yX8_within : MethodName := ⟨RX8, "within", "(III)Z"⟩
abbrev cX8_has : ByteArray := prog_10_method_3_code
def yX8_has : MethodName := ⟨RX8, "has", "(II)Z"⟩
abbrev cX8_isSign : ByteArray := prog_10_method_4_code
def yX8_isSign : MethodName := ⟨RX8, "isSign", "(I)Z"⟩
abbrev cX8_isLetter : ByteArray := prog_10_method_5_code
def yX8_isLetter : MethodName := ⟨RX8, "isLetter", "(I)Z"⟩
abbrev cX8_ruleOf : ByteArray := prog_10_method_6_code
def yX8_ruleOf : MethodName := ⟨RX8, "ruleOf", "(II)I"⟩
abbrev cX8_claimOf : ByteArray := prog_10_method_7_code
def yX8_claimOf : MethodName := ⟨RX8, "claimOf", "(I)I"⟩
abbrev cX8_digits : ByteArray := prog_10_method_8_code
def yX8_digits : MethodName := ⟨RX8, "digits", "(JI)I"⟩
abbrev cX8_isRow : ByteArray := prog_10_method_9_code
def yX8_isRow : MethodName := ⟨RX8, "isRow", "(II)Z"⟩
abbrev cX8_digitAt : ByteArray := prog_10_method_10_code
def yX8_digitAt : MethodName := ⟨RX8, "digitAt", "(JII)I"⟩
abbrev cX8_keeps : ByteArray := prog_10_method_11_code
def yX8_keeps : MethodName := ⟨RX8, "keeps", "()V"⟩
abbrev cX8_rule : ByteArray := prog_10_method_12_code
def yX8_rule : MethodName := ⟨RX8, "rule", "(III)I"⟩
abbrev cX8_ofRule : ByteArray := prog_10_method_13_code
def yX8_ofRule : MethodName := ⟨RX8, "ofRule", "(II)I"⟩
abbrev cX8_stacks : ByteArray := prog_10_method_14_code
def yX8_stacks : MethodName := ⟨RX8, "stacks", "(I)V"⟩
abbrev cX8_reads : ByteArray := prog_10_method_15_code
def yX8_reads : MethodName := ⟨RX8, "reads", "(I)Z"⟩
abbrev cX8_readMany : ByteArray := prog_10_method_16_code
def yX8_readMany : MethodName := ⟨RX8, "readMany", "(IJI)I"⟩
abbrev cX8_read : ByteArray := prog_10_method_17_code
def yX8_read : MethodName := ⟨RX8, "read", "(IJI)I"⟩
abbrev cX8_normOf : ByteArray := prog_10_method_18_code
def yX8_normOf : MethodName := ⟨RX8, "normOf", "(I)I"⟩
abbrev cX8_findNorms : ByteArray := prog_10_method_19_code
def yX8_findNorms : MethodName := ⟨RX8, "findNorms", "()V"⟩
abbrev cX8_norm : ByteArray := prog_10_method_20_code
def yX8_norm : MethodName := ⟨RX8, "norm", "(I)I"⟩
abbrev cX8_least : ByteArray := prog_10_method_21_code
def yX8_least : MethodName := ⟨RX8, "least", "(I)J"⟩
abbrev cX8_countsRow : ByteArray := prog_10_method_22_code
def yX8_countsRow : MethodName := ⟨RX8, "countsRow", "(II)V"⟩
abbrev cX8_countsSigns : ByteArray := prog_10_method_23_code
def yX8_countsSigns : MethodName := ⟨RX8, "countsSigns", "(I)V"⟩
abbrev cX8_words : ByteArray := prog_10_method_24_code
def yX8_words : MethodName := ⟨RX8, "words", "(II)I"⟩
abbrev cX8_is : ByteArray := prog_10_method_25_code
def yX8_is : MethodName := ⟨RX8, "is", "(IJII)Z"⟩
abbrev cX8_lettersBy : ByteArray := prog_10_method_26_code
def yX8_lettersBy : MethodName := ⟨RX8, "lettersBy", "(II)J"⟩
abbrev cX8_parts : ByteArray := prog_10_method_27_code
def yX8_parts : MethodName := ⟨RX8, "parts", "(III)J"⟩
abbrev cX8_comesFirst : ByteArray := prog_10_method_28_code
def yX8_comesFirst : MethodName := ⟨RX8, "comesFirst", "(I)I"⟩
abbrev cX8_firsts : ByteArray := prog_10_method_29_code
def yX8_firsts : MethodName := ⟨RX8, "firsts", "(I)I"⟩
abbrev cX8_isClaim : ByteArray := prog_10_method_30_code
def yX8_isClaim : MethodName := ⟨RX8, "isClaim", "(II)Z"⟩
abbrev cX8_claim : ByteArray := prog_10_method_31_code
def yX8_claim : MethodName := ⟨RX8, "claim", "(II)I"⟩
abbrev cX8_ofClaim : ByteArray := prog_10_method_32_code
def yX8_ofClaim : MethodName := ⟨RX8, "ofClaim", "(I)I"⟩
abbrev cX8_lays : ByteArray := prog_10_method_33_code
def yX8_lays : MethodName := ⟨RX8, "lays", "(I[II)I"⟩
abbrev cX8_reduces : ByteArray := prog_10_method_34_code
def yX8_reduces : MethodName := ⟨RX8, "reduces", "([II)I"⟩
abbrev cX8_reducesBoth : ByteArray := prog_10_method_35_code
def yX8_reducesBoth : MethodName := ⟨RX8, "reducesBoth", "(II)V"⟩
abbrev cX8_alikeFrom : ByteArray := prog_10_method_36_code
def yX8_alikeFrom : MethodName := ⟨RX8, "alikeFrom", "(Z)I"⟩
abbrev cX8_areAlike : ByteArray := prog_10_method_37_code
def yX8_areAlike : MethodName := ⟨RX8, "areAlike", "()Z"⟩
abbrev cX8_reduced : ByteArray := prog_10_method_38_code
def yX8_reduced : MethodName := ⟨RX8, "reduced", "(II)I"⟩
abbrev cX8_alike : ByteArray := prog_10_method_39_code
def yX8_alike : MethodName := ⟨RX8, "alike", "(II)I"⟩
abbrev cX8_common : ByteArray := prog_10_method_40_code
def yX8_common : MethodName := ⟨RX8, "common", "(III)I"⟩
abbrev cX8_breaks : ByteArray := prog_10_method_41_code
def yX8_breaks : MethodName := ⟨RX8, "breaks", "(II)Z"⟩
abbrev cX8_brokenBy : ByteArray := prog_10_method_42_code
def yX8_brokenBy : MethodName := ⟨RX8, "brokenBy", "(I)I"⟩
abbrev cX8_brokenNow : ByteArray := prog_10_method_43_code
def yX8_brokenNow : MethodName := ⟨RX8, "brokenNow", "()I"⟩
abbrev cX8_broken : ByteArray := prog_10_method_44_code
def yX8_broken : MethodName := ⟨RX8, "broken", "(I)I"⟩
abbrev cX8_sizeOf : ByteArray := prog_10_method_45_code
def yX8_sizeOf : MethodName := ⟨RX8, "sizeOf", "(I)I"⟩
abbrev cX8_settle : ByteArray := prog_10_method_46_code
def yX8_settle : MethodName := ⟨RX8, "settle", "()I"⟩
abbrev cX8_might : ByteArray := prog_10_method_47_code
def yX8_might : MethodName := ⟨RX8, "might", "(II)I"⟩
abbrev cX8_undo : ByteArray := prog_10_method_48_code
def yX8_undo : MethodName := ⟨RX8, "undo", "(I)I"⟩
abbrev cX8_manyTold : ByteArray := prog_10_method_49_code
def yX8_manyTold : MethodName := ⟨RX8, "manyTold", "(II)I"⟩
abbrev cX8_manyWithWord : ByteArray := prog_10_method_50_code
def yX8_manyWithWord : MethodName := ⟨RX8, "manyWithWord", "()I"⟩
abbrev cX8_many : ByteArray := prog_10_method_51_code
def yX8_many : MethodName := ⟨RX8, "many", "(I)I"⟩
def RJ6 : String := "java/lang/Integer"
def TJ6 : u_T := fun k => match k with
  | _ => ("", "", "", false)
def tyJ6 : Nat → FieldType := fun k => match k with
  | _ => .int
abbrev wsJ60 : List Cond := u_ws RJ6 TJ6 0
theorem nmJ6 : ∀ a, a < 0 → ∀ b, b < 0 → a ≠ b → (TJ6 a).2.1 ≠ (TJ6 b).2.1 := by decide +kernel
theorem tyJ6_ok : ∀ k, k < 0 → parseFieldDescriptor (TJ6 k).2.2.1 = some (tyJ6 k) := by decide +kernel
abbrev cJ6_bitCount_0f7a4 : ByteArray := prog_11_method_49_code
def yJ6_bitCount_0f7a4 : MethodName := ⟨RJ6, "bitCount", "(I)I"⟩
def RJ9 : String := "java/lang/Math"
def TJ9 : u_T := fun k => match k with
  | _ => ("", "", "", false)
def tyJ9 : Nat → FieldType := fun k => match k with
  | _ => .int
abbrev wsJ90 : List Cond := u_ws RJ9 TJ9 0
theorem nmJ9 : ∀ a, a < 0 → ∀ b, b < 0 → a ≠ b → (TJ9 a).2.1 ≠ (TJ9 b).2.1 := by decide +kernel
theorem tyJ9_ok : ∀ k, k < 0 → parseFieldDescriptor (TJ9 k).2.2.1 = some (tyJ9 k) := by decide +kernel
abbrev cJ9_max_7cf53 : ByteArray := prog_12_method_65_code
def yJ9_max_7cf53 : MethodName := ⟨RJ9, "max", "(II)I"⟩
abbrev cJ9_min_7cf53 : ByteArray := prog_12_method_69_code
def yJ9_min_7cf53 : MethodName := ⟨RJ9, "min", "(II)I"⟩
def RJ10 : String := "java/lang/System"
def TJ10 : u_T := fun k => match k with
  | _ => ("", "", "", false)
def tyJ10 : Nat → FieldType := fun k => match k with
  | _ => .int
abbrev wsJ100 : List Cond := u_ws RJ10 TJ10 0
theorem nmJ10 : ∀ a, a < 0 → ∀ b, b < 0 → a ≠ b → (TJ10 a).2.1 ≠ (TJ10 b).2.1 := by decide +kernel
theorem tyJ10_ok : ∀ k, k < 0 → parseFieldDescriptor (TJ10 k).2.2.1 = some (tyJ10 k) := by decide +kernel
def RJ7 : String := "java/util/Arrays"
def TJ7 : u_T := fun k => match k with
  | _ => ("", "", "", false)
def tyJ7 : Nat → FieldType := fun k => match k with
  | _ => .int
abbrev wsJ70 : List Cond := u_ws RJ7 TJ7 0
theorem nmJ7 : ∀ a, a < 0 → ∀ b, b < 0 → a ≠ b → (TJ7 a).2.1 ≠ (TJ7 b).2.1 := by decide +kernel
theorem tyJ7_ok : ∀ k, k < 0 → parseFieldDescriptor (TJ7 k).2.2.1 = some (tyJ7 k) := by decide +kernel
abbrev cJ7_fill_53178 : ByteArray := prog_14_method_103_code
def yJ7_fill_53178 : MethodName := ⟨RJ7, "fill", "([II)V"⟩
def RL : String := "FirstSignsLaw"
abbrev cL_law : ByteArray := code
def yL_law : MethodName := ⟨RL, "law", "([I)Z"⟩
def wsX0_init : List Cond := .code yX0_init cX0_init 1 none :: ([.methodLink RX0 3 objectInit, .instanceMethod objectInit, .code objectInit ⟨#[0xb1]⟩ 1 none, .classLink RX0 9 "[[I", .arrayClass .int, .fieldLink RX0 11 "FirstSigns$Counts" "ofSign" "[[I", .fieldLink RX0 16 "FirstSigns$Counts" "ofPart" "[I"] ++ wsX00)
def wsX7_isSign : List Cond := .code yX7_isSign cX7_isSign 1 (some .boolean) :: ([])
def wsX7_isLetter : List Cond := .code yX7_isLetter cX7_isLetter 1 (some .boolean) :: ([])
def wsX6_ruleOf : List Cond := .code yX6_ruleOf cX6_ruleOf 3 (some .int) :: ([.fieldLink RX6 9 "FirstSigns$Table" "rules" "[I", .static yX7_isSign, .initialized RX7, .code yX7_isSign cX7_isSign 1 (some .boolean), .static yX7_isLetter, .code yX7_isLetter cX7_isLetter 1 (some .boolean)] ++ wsX60)
def wsJ7_fill_53178 : List Cond := .code yJ7_fill_53178 cJ7_fill_53178 4 none :: ([])
def wsX0_addSign : List Cond := .code yX0_addSign cX0_addSign 6 none :: ([.fieldLink RX0 11 "FirstSigns$Counts" "ofSign" "[[I", .fieldLink RX0 16 "FirstSigns$Counts" "ofPart" "[I", .static yX7_isSign, .initialized RX7, .code yX7_isSign cX7_isSign 1 (some .boolean)] ++ wsX00)
def wsX0_ofRow : List Cond := .code yX0_ofRow cX0_ofRow 4 (some .int) :: ([.fieldLink RX0 16 "FirstSigns$Counts" "ofPart" "[I", .methodLink RX0 24 yJ7_fill_53178, .static yJ7_fill_53178, .initialized RJ7, .code yJ7_fill_53178 cJ7_fill_53178 4 none, .methodLink RX0 30 yX0_addSign, .instanceMethod yX0_addSign, .selects RX0 yX0_addSign yX0_addSign, .initialized RX0, .code yX0_addSign cX0_addSign 6 none, .fieldLink RX0 11 "FirstSigns$Counts" "ofSign" "[[I", .static yX7_isSign, .initialized RX7, .code yX7_isSign cX7_isSign 1 (some .boolean)] ++ wsX00)
def wsX0_byRules_r1 : List Cond := [Cond.methodLink RX0 34 yX6_ruleOf, Cond.instanceMethod yX6_ruleOf, Cond.selects RX6 yX6_ruleOf yX6_ruleOf, Cond.initialized RX6, Cond.code yX6_ruleOf cX6_ruleOf 3 (some .int), Cond.fieldLink RX6 9 "FirstSigns$Table" "rules" "[I", Cond.static yX7_isSign, Cond.initialized RX7, Cond.code yX7_isSign cX7_isSign 1 (some .boolean), Cond.static yX7_isLetter, Cond.code yX7_isLetter cX7_isLetter 1 (some .boolean), Cond.methodLink RX0 40 yX0_ofRow, Cond.instanceMethod yX0_ofRow, Cond.selects RX0 yX0_ofRow yX0_ofRow, Cond.initialized RX0, Cond.code yX0_ofRow cX0_ofRow 4 (some .int), Cond.fieldLink RX0 16 "FirstSigns$Counts" "ofPart" "[I", Cond.methodLink RX0 24 yJ7_fill_53178, Cond.static yJ7_fill_53178, Cond.initialized RJ7, Cond.code yJ7_fill_53178 cJ7_fill_53178 4 none, Cond.methodLink RX0 30 yX0_addSign, Cond.instanceMethod yX0_addSign, Cond.selects RX0 yX0_addSign yX0_addSign]
def wsX0_byRules_r2 : List Cond := [Cond.code yX0_addSign cX0_addSign 6 none, Cond.fieldLink RX0 11 "FirstSigns$Counts" "ofSign" "[[I"]
def wsX0_byRules : List Cond := .code yX0_byRules cX0_byRules 7 (some .int) :: ((wsX0_byRules_r1 ++ wsX0_byRules_r2) ++ wsX60 ++ wsX00)
def wsX0_find_r1 : List Cond := [Cond.fieldLink RX0 11 "FirstSigns$Counts" "ofSign" "[[I", Cond.methodLink RX0 20 yX0_byRules, Cond.instanceMethod yX0_byRules, Cond.selects RX0 yX0_byRules yX0_byRules, Cond.initialized RX0, Cond.code yX0_byRules cX0_byRules 7 (some .int), Cond.methodLink RX0 34 yX6_ruleOf, Cond.instanceMethod yX6_ruleOf, Cond.selects RX6 yX6_ruleOf yX6_ruleOf, Cond.initialized RX6, Cond.code yX6_ruleOf cX6_ruleOf 3 (some .int), Cond.fieldLink RX6 9 "FirstSigns$Table" "rules" "[I", Cond.static yX7_isSign, Cond.initialized RX7, Cond.code yX7_isSign cX7_isSign 1 (some .boolean), Cond.static yX7_isLetter, Cond.code yX7_isLetter cX7_isLetter 1 (some .boolean), Cond.methodLink RX0 40 yX0_ofRow, Cond.instanceMethod yX0_ofRow, Cond.selects RX0 yX0_ofRow yX0_ofRow, Cond.code yX0_ofRow cX0_ofRow 4 (some .int), Cond.fieldLink RX0 16 "FirstSigns$Counts" "ofPart" "[I", Cond.methodLink RX0 24 yJ7_fill_53178, Cond.static yJ7_fill_53178]
def wsX0_find_r2 : List Cond := [Cond.initialized RJ7, Cond.code yJ7_fill_53178 cJ7_fill_53178 4 none, Cond.methodLink RX0 30 yX0_addSign, Cond.instanceMethod yX0_addSign, Cond.selects RX0 yX0_addSign yX0_addSign, Cond.code yX0_addSign cX0_addSign 6 none]
def wsX0_find : List Cond := .code yX0_find cX0_find 5 none :: ((wsX0_find_r1 ++ wsX0_find_r2) ++ wsX00 ++ wsX60)
def wsX5_init : List Cond := .code yX5_init cX5_init 2 none :: ([.methodLink RX5 3 objectInit, .instanceMethod objectInit, .code objectInit ⟨#[0xb1]⟩ 1 none, .methodLink RX5 9 Lib.Math.max.name, .static Lib.Math.max.name, .initialized "java/lang/Math", .code Lib.Math.max.name Lib.Math.max.code 2 (some .int), .arrayClass .int, .fieldLink RX5 15 "FirstSigns$Row" "signs" "[I"] ++ wsX50)
def wsX1_init : List Cond := .code yX1_init cX1_init 2 none :: ([.methodLink RX1 3 objectInit, .instanceMethod objectInit, .code objectInit ⟨#[0xb1]⟩ 1 none, .classLink RX1 9 RX5, .fieldLink RX1 11 "FirstSigns$Forms" "ofSign" "[LFirstSigns$Row;", .instantiable RX5 2, .initialized RX5, .methodLink RX1 17 yX5_init, .instanceMethod yX5_init, .code yX5_init cX5_init 2 none, .methodLink RX5 3 objectInit, .methodLink RX5 9 Lib.Math.max.name, .static Lib.Math.max.name, .initialized "java/lang/Math", .code Lib.Math.max.name Lib.Math.max.code 2 (some .int), .arrayClass .int, .fieldLink RX5 15 "FirstSigns$Row" "signs" "[I"] ++ wsX10 ++ wsX50)
def wsX6_claimOf : List Cond := .code yX6_claimOf cX6_claimOf 2 (some .int) :: ([.fieldLink RX6 15 "FirstSigns$Table" "claims" "[I", .static yX7_isSign, .initialized RX7, .code yX7_isSign cX7_isSign 1 (some .boolean)] ++ wsX60)
def wsX5_clear : List Cond := .code yX5_clear cX5_clear 1 none :: ([.fieldLink RX5 21 "FirstSigns$Row" "length" "I"] ++ wsX50)
def wsX5_putFirst : List Cond := .code yX5_putFirst cX5_putFirst 2 none :: ([.fieldLink RX5 21 "FirstSigns$Row" "length" "I", .fieldLink RX5 15 "FirstSigns$Row" "signs" "[I"] ++ wsX50)
def wsX5_putAllAhead : List Cond := .code yX5_putAllAhead cX5_putAllAhead 2 none :: ([.fieldLink RX5 21 "FirstSigns$Row" "length" "I", .fieldLink RX5 15 "FirstSigns$Row" "signs" "[I", .methodLink RX5 35 arraycopyName, .native arraycopyName, .static arraycopyName, .initialized "java/lang/System"] ++ wsX50)
def wsX1_putAhead : List Cond := .code yX1_putAhead cX1_putAhead 5 none :: ([.fieldLink RX1 11 "FirstSigns$Forms" "ofSign" "[LFirstSigns$Row;", .static yX7_isSign, .initialized RX7, .code yX7_isSign cX7_isSign 1 (some .boolean), .methodLink RX1 40 yX5_putAllAhead, .instanceMethod yX5_putAllAhead, .selects RX5 yX5_putAllAhead yX5_putAllAhead, .initialized RX5, .code yX5_putAllAhead cX5_putAllAhead 2 none, .fieldLink RX5 21 "FirstSigns$Row" "length" "I", .fieldLink RX5 15 "FirstSigns$Row" "signs" "[I", .methodLink RX5 35 arraycopyName, .native arraycopyName, .static arraycopyName, .initialized "java/lang/System"] ++ wsX10 ++ wsX50)
def wsX1_find_r1 : List Cond := [Cond.fieldLink RX1 11 "FirstSigns$Forms" "ofSign" "[LFirstSigns$Row;", Cond.methodLink RX1 20 yX6_claimOf, Cond.instanceMethod yX6_claimOf, Cond.selects RX6 yX6_claimOf yX6_claimOf, Cond.initialized RX6, Cond.code yX6_claimOf cX6_claimOf 2 (some .int), Cond.fieldLink RX6 15 "FirstSigns$Table" "claims" "[I", Cond.static yX7_isSign, Cond.initialized RX7, Cond.code yX7_isSign cX7_isSign 1 (some .boolean), Cond.methodLink RX1 26 yX5_clear, Cond.instanceMethod yX5_clear, Cond.selects RX5 yX5_clear yX5_clear, Cond.initialized RX5, Cond.code yX5_clear cX5_clear 1 none, Cond.fieldLink RX5 21 "FirstSigns$Row" "length" "I", Cond.methodLink RX1 29 yX5_putFirst, Cond.instanceMethod yX5_putFirst, Cond.selects RX5 yX5_putFirst yX5_putFirst, Cond.code yX5_putFirst cX5_putFirst 2 none, Cond.fieldLink RX5 15 "FirstSigns$Row" "signs" "[I", Cond.methodLink RX1 32 yX1_putAhead, Cond.instanceMethod yX1_putAhead, Cond.selects RX1 yX1_putAhead yX1_putAhead]
def wsX1_find_r2 : List Cond := [Cond.initialized RX1, Cond.code yX1_putAhead cX1_putAhead 5 none, Cond.methodLink RX1 40 yX5_putAllAhead, Cond.instanceMethod yX5_putAllAhead, Cond.selects RX5 yX5_putAllAhead yX5_putAllAhead, Cond.code yX5_putAllAhead cX5_putAllAhead 2 none, Cond.methodLink RX5 35 arraycopyName, Cond.native arraycopyName, Cond.static arraycopyName, Cond.initialized "java/lang/System"]
def wsX1_find : List Cond := .code yX1_find cX1_find 5 none :: ((wsX1_find_r1 ++ wsX1_find_r2) ++ wsX10 ++ wsX60 ++ wsX50)
def wsX2_init : List Cond := .code yX2_init cX2_init 1 none :: ([.methodLink RX2 3 objectInit, .instanceMethod objectInit, .code objectInit ⟨#[0xb1]⟩ 1 none, .arrayClass .int, .fieldLink RX2 9 "FirstSigns$Norms" "ofSign" "[I"] ++ wsX20)
def wsX2_of : List Cond := .code yX2_of cX2_of 2 (some .int) :: ([.fieldLink RX2 9 "FirstSigns$Norms" "ofSign" "[I", .static yX7_isSign, .initialized RX7, .code yX7_isSign cX7_isSign 1 (some .boolean)] ++ wsX20)
def wsX2_ofRow : List Cond := .code yX2_ofRow cX2_ofRow 5 (some .int) :: ([.methodLink RX2 29 yX2_of, .instanceMethod yX2_of, .selects RX2 yX2_of yX2_of, .initialized RX2, .code yX2_of cX2_of 2 (some .int), .fieldLink RX2 9 "FirstSigns$Norms" "ofSign" "[I", .static yX7_isSign, .initialized RX7, .code yX7_isSign cX7_isSign 1 (some .boolean)] ++ wsX20)
def wsX2_byLetter : List Cond := .code yX2_byLetter cX2_byLetter 6 (some .int) :: ([.methodLink RX2 33 yX6_ruleOf, .instanceMethod yX6_ruleOf, .selects RX6 yX6_ruleOf yX6_ruleOf, .initialized RX6, .code yX6_ruleOf cX6_ruleOf 3 (some .int), .fieldLink RX6 9 "FirstSigns$Table" "rules" "[I", .static yX7_isSign, .initialized RX7, .code yX7_isSign cX7_isSign 1 (some .boolean), .static yX7_isLetter, .code yX7_isLetter cX7_isLetter 1 (some .boolean), .methodLink RX2 39 yX2_ofRow, .instanceMethod yX2_ofRow, .selects RX2 yX2_ofRow yX2_ofRow, .initialized RX2, .code yX2_ofRow cX2_ofRow 5 (some .int), .methodLink RX2 29 yX2_of, .instanceMethod yX2_of, .selects RX2 yX2_of yX2_of, .code yX2_of cX2_of 2 (some .int), .fieldLink RX2 9 "FirstSigns$Norms" "ofSign" "[I"] ++ wsX60 ++ wsX20)
def wsX2_leastLetter_r1 : List Cond := [Cond.methodLink RX2 25 yX2_byLetter, Cond.instanceMethod yX2_byLetter, Cond.selects RX2 yX2_byLetter yX2_byLetter, Cond.initialized RX2, Cond.code yX2_byLetter cX2_byLetter 6 (some .int), Cond.methodLink RX2 33 yX6_ruleOf, Cond.instanceMethod yX6_ruleOf, Cond.selects RX6 yX6_ruleOf yX6_ruleOf, Cond.initialized RX6, Cond.code yX6_ruleOf cX6_ruleOf 3 (some .int), Cond.fieldLink RX6 9 "FirstSigns$Table" "rules" "[I", Cond.static yX7_isSign, Cond.initialized RX7, Cond.code yX7_isSign cX7_isSign 1 (some .boolean), Cond.static yX7_isLetter, Cond.code yX7_isLetter cX7_isLetter 1 (some .boolean), Cond.methodLink RX2 39 yX2_ofRow, Cond.instanceMethod yX2_ofRow, Cond.selects RX2 yX2_ofRow yX2_ofRow, Cond.code yX2_ofRow cX2_ofRow 5 (some .int), Cond.methodLink RX2 29 yX2_of, Cond.instanceMethod yX2_of, Cond.selects RX2 yX2_of yX2_of, Cond.code yX2_of cX2_of 2 (some .int)]
def wsX2_leastLetter_r2 : List Cond := [Cond.fieldLink RX2 9 "FirstSigns$Norms" "ofSign" "[I"]
def wsX2_leastLetter : List Cond := .code yX2_leastLetter cX2_leastLetter 7 (some .int) :: ((wsX2_leastLetter_r1 ++ wsX2_leastLetter_r2) ++ wsX60 ++ wsX20)
def wsX2_find_r1 : List Cond := [Cond.fieldLink RX2 9 "FirstSigns$Norms" "ofSign" "[I", Cond.methodLink RX2 15 yJ7_fill_53178, Cond.static yJ7_fill_53178, Cond.initialized RJ7, Cond.code yJ7_fill_53178 cJ7_fill_53178 4 none, Cond.methodLink RX2 21 yX2_leastLetter, Cond.instanceMethod yX2_leastLetter, Cond.selects RX2 yX2_leastLetter yX2_leastLetter, Cond.initialized RX2, Cond.code yX2_leastLetter cX2_leastLetter 7 (some .int), Cond.methodLink RX2 25 yX2_byLetter, Cond.instanceMethod yX2_byLetter, Cond.selects RX2 yX2_byLetter yX2_byLetter, Cond.code yX2_byLetter cX2_byLetter 6 (some .int), Cond.methodLink RX2 33 yX6_ruleOf, Cond.instanceMethod yX6_ruleOf, Cond.selects RX6 yX6_ruleOf yX6_ruleOf, Cond.initialized RX6, Cond.code yX6_ruleOf cX6_ruleOf 3 (some .int), Cond.fieldLink RX6 9 "FirstSigns$Table" "rules" "[I", Cond.static yX7_isSign, Cond.initialized RX7, Cond.code yX7_isSign cX7_isSign 1 (some .boolean), Cond.static yX7_isLetter]
def wsX2_find_r2 : List Cond := [Cond.code yX7_isLetter cX7_isLetter 1 (some .boolean), Cond.methodLink RX2 39 yX2_ofRow, Cond.instanceMethod yX2_ofRow, Cond.selects RX2 yX2_ofRow yX2_ofRow, Cond.code yX2_ofRow cX2_ofRow 5 (some .int), Cond.methodLink RX2 29 yX2_of, Cond.instanceMethod yX2_of, Cond.selects RX2 yX2_of yX2_of, Cond.code yX2_of cX2_of 2 (some .int)]
def wsX2_find : List Cond := .code yX2_find cX2_find 4 none :: ((wsX2_find_r1 ++ wsX2_find_r2) ++ wsX20 ++ wsX60)
def wsX2_countFound : List Cond := .code yX2_countFound cX2_countFound 6 (some .int) :: ([.fieldLink RX2 9 "FirstSigns$Norms" "ofSign" "[I"] ++ wsX20)
def wsX2_firstsWithin : List Cond := .code yX2_firstsWithin cX2_firstsWithin 5 (some .int) :: ([.methodLink RX2 29 yX2_of, .instanceMethod yX2_of, .selects RX2 yX2_of yX2_of, .initialized RX2, .code yX2_of cX2_of 2 (some .int), .fieldLink RX2 9 "FirstSigns$Norms" "ofSign" "[I", .static yX7_isSign, .initialized RX7, .code yX7_isSign cX7_isSign 1 (some .boolean)] ++ wsX20)
def wsX6_init : List Cond := .code yX6_init cX6_init 1 none :: ([.methodLink RX6 3 objectInit, .instanceMethod objectInit, .code objectInit ⟨#[0xb1]⟩ 1 none, .arrayClass .int, .fieldLink RX6 9 "FirstSigns$Table" "rules" "[I", .fieldLink RX6 15 "FirstSigns$Table" "claims" "[I", .methodLink RX6 18 yJ7_fill_53178, .static yJ7_fill_53178, .initialized RJ7, .code yJ7_fill_53178 cJ7_fill_53178 4 none] ++ wsX60)
def wsX3_init : List Cond := .code yX3_init cX3_init 2 none :: ([.methodLink RX3 3 objectInit, .instanceMethod objectInit, .code objectInit ⟨#[0xb1]⟩ 1 none, .classLink RX3 9 RX6, .fieldLink RX3 11 "FirstSigns$Past" "ahead" "[LFirstSigns$Table;", .instantiable RX6 2, .initialized RX6, .methodLink RX3 17 yX6_init, .instanceMethod yX6_init, .code yX6_init cX6_init 1 none, .methodLink RX6 3 objectInit, .arrayClass .int, .fieldLink RX6 9 "FirstSigns$Table" "rules" "[I", .fieldLink RX6 15 "FirstSigns$Table" "claims" "[I", .methodLink RX6 18 yJ7_fill_53178, .static yJ7_fill_53178, .initialized RJ7, .code yJ7_fill_53178 cJ7_fill_53178 4 none] ++ wsX30 ++ wsX60)
def wsX3_kept : List Cond := .code yX3_kept cX3_kept 1 (some .int) :: ([.fieldLink RX3 18 "FirstSigns$Past" "kept" "I"] ++ wsX30)
def wsX6_copyFrom : List Cond := .code yX6_copyFrom cX6_copyFrom 2 none :: ([.fieldLink RX6 9 "FirstSigns$Table" "rules" "[I", .methodLink RX6 35 arraycopyName, .native arraycopyName, .static arraycopyName, .initialized "java/lang/System", .fieldLink RX6 15 "FirstSigns$Table" "claims" "[I"] ++ wsX60)
def wsX3_keep : List Cond := .code yX3_keep cX3_keep 2 none :: ([.fieldLink RX3 11 "FirstSigns$Past" "ahead" "[LFirstSigns$Table;", .fieldLink RX3 22 "FirstSigns$Past" "next" "I", .fieldLink RX3 18 "FirstSigns$Past" "kept" "I", .methodLink RX3 29 Lib.Math.min.name, .static Lib.Math.min.name, .initialized "java/lang/Math", .code Lib.Math.min.name Lib.Math.min.code 2 (some .int), .methodLink RX3 25 yX6_copyFrom, .instanceMethod yX6_copyFrom, .selects RX6 yX6_copyFrom yX6_copyFrom, .initialized RX6, .code yX6_copyFrom cX6_copyFrom 2 none, .fieldLink RX6 9 "FirstSigns$Table" "rules" "[I", .methodLink RX6 35 arraycopyName, .native arraycopyName, .static arraycopyName, .initialized "java/lang/System", .fieldLink RX6 15 "FirstSigns$Table" "claims" "[I"] ++ wsX30 ++ wsX60)
def wsX3_bringBack : List Cond := .code yX3_bringBack cX3_bringBack 3 none :: ([.fieldLink RX3 18 "FirstSigns$Past" "kept" "I", .fieldLink RX3 22 "FirstSigns$Past" "next" "I", .fieldLink RX3 11 "FirstSigns$Past" "ahead" "[LFirstSigns$Table;", .methodLink RX3 25 yX6_copyFrom, .instanceMethod yX6_copyFrom, .selects RX6 yX6_copyFrom yX6_copyFrom, .initialized RX6, .code yX6_copyFrom cX6_copyFrom 2 none, .fieldLink RX6 9 "FirstSigns$Table" "rules" "[I", .methodLink RX6 35 arraycopyName, .native arraycopyName, .static arraycopyName, .initialized "java/lang/System", .fieldLink RX6 15 "FirstSigns$Table" "claims" "[I"] ++ wsX30 ++ wsX60)
def wsX4_init : List Cond := .code yX4_init cX4_init 1 none :: ([.methodLink RX4 3 objectInit, .instanceMethod objectInit, .code objectInit ⟨#[0xb1]⟩ 1 none, .classLink RX4 9 RX5, .instantiable RX5 2, .initialized RX5, .fieldLink RX4 14 "FirstSigns$Reader" "left" "LFirstSigns$Row;", .fieldLink RX4 20 "FirstSigns$Reader" "ahead" "LFirstSigns$Row;", .methodLink RX4 11 yX5_init, .instanceMethod yX5_init, .code yX5_init cX5_init 2 none, .methodLink RX5 3 objectInit, .methodLink RX5 9 Lib.Math.max.name, .static Lib.Math.max.name, .initialized "java/lang/Math", .code Lib.Math.max.name Lib.Math.max.code 2 (some .int), .arrayClass .int, .fieldLink RX5 15 "FirstSigns$Row" "signs" "[I"] ++ wsX50 ++ wsX40)
def wsX5_putRowAhead : List Cond := .code yX5_putRowAhead cX5_putRowAhead 5 none :: ([.constantLong RX5 29 (10), .methodLink RX5 31 yX5_putFirst, .instanceMethod yX5_putFirst, .selects RX5 yX5_putFirst yX5_putFirst, .initialized RX5, .code yX5_putFirst cX5_putFirst 2 none, .fieldLink RX5 21 "FirstSigns$Row" "length" "I", .fieldLink RX5 15 "FirstSigns$Row" "signs" "[I"] ++ wsX50)
def wsX4_start : List Cond := .code yX4_start cX4_start 2 none :: ([.fieldLink RX4 14 "FirstSigns$Reader" "left" "LFirstSigns$Row;", .methodLink RX4 23 yX5_clear, .instanceMethod yX5_clear, .selects RX5 yX5_clear yX5_clear, .initialized RX5, .code yX5_clear cX5_clear 1 none, .fieldLink RX5 21 "FirstSigns$Row" "length" "I", .methodLink RX4 26 yX5_putRowAhead, .instanceMethod yX5_putRowAhead, .selects RX5 yX5_putRowAhead yX5_putRowAhead, .code yX5_putRowAhead cX5_putRowAhead 5 none, .constantLong RX5 29 (10), .methodLink RX5 31 yX5_putFirst, .instanceMethod yX5_putFirst, .selects RX5 yX5_putFirst yX5_putFirst, .code yX5_putFirst cX5_putFirst 2 none, .fieldLink RX5 15 "FirstSigns$Row" "signs" "[I"] ++ wsX40 ++ wsX50)
def wsX5_fromLast : List Cond := .code yX5_fromLast cX5_fromLast 2 (some .int) :: ([.fieldLink RX5 21 "FirstSigns$Row" "length" "I", .fieldLink RX5 15 "FirstSigns$Row" "signs" "[I"] ++ wsX50)
def wsX5_fromFirst : List Cond := .code yX5_fromFirst cX5_fromFirst 2 (some .int) :: ([.fieldLink RX5 21 "FirstSigns$Row" "length" "I", .methodLink RX5 25 yX5_fromLast, .instanceMethod yX5_fromLast, .selects RX5 yX5_fromLast yX5_fromLast, .initialized RX5, .code yX5_fromLast cX5_fromLast 2 (some .int), .fieldLink RX5 15 "FirstSigns$Row" "signs" "[I"] ++ wsX50)
def wsX5_dropFirst : List Cond := .code yX5_dropFirst cX5_dropFirst 1 none :: ([.fieldLink RX5 21 "FirstSigns$Row" "length" "I", .methodLink RX5 9 Lib.Math.max.name, .static Lib.Math.max.name, .initialized "java/lang/Math", .code Lib.Math.max.name Lib.Math.max.code 2 (some .int)] ++ wsX50)
def wsX4_step_r1 : List Cond := [Cond.fieldLink RX4 14 "FirstSigns$Reader" "left" "LFirstSigns$Row;", Cond.methodLink RX4 30 yX5_fromFirst, Cond.instanceMethod yX5_fromFirst, Cond.selects RX5 yX5_fromFirst yX5_fromFirst, Cond.initialized RX5, Cond.code yX5_fromFirst cX5_fromFirst 2 (some .int), Cond.fieldLink RX5 21 "FirstSigns$Row" "length" "I", Cond.methodLink RX5 25 yX5_fromLast, Cond.instanceMethod yX5_fromLast, Cond.selects RX5 yX5_fromLast yX5_fromLast, Cond.code yX5_fromLast cX5_fromLast 2 (some .int), Cond.fieldLink RX5 15 "FirstSigns$Row" "signs" "[I", Cond.methodLink RX4 34 yX6_ruleOf, Cond.instanceMethod yX6_ruleOf, Cond.selects RX6 yX6_ruleOf yX6_ruleOf, Cond.initialized RX6, Cond.code yX6_ruleOf cX6_ruleOf 3 (some .int), Cond.fieldLink RX6 9 "FirstSigns$Table" "rules" "[I", Cond.static yX7_isSign, Cond.initialized RX7, Cond.code yX7_isSign cX7_isSign 1 (some .boolean), Cond.static yX7_isLetter, Cond.code yX7_isLetter cX7_isLetter 1 (some .boolean), Cond.methodLink RX4 40 yX5_dropFirst]
def wsX4_step_r2 : List Cond := [Cond.instanceMethod yX5_dropFirst, Cond.selects RX5 yX5_dropFirst yX5_dropFirst, Cond.code yX5_dropFirst cX5_dropFirst 1 none, Cond.methodLink RX5 9 Lib.Math.max.name, Cond.static Lib.Math.max.name, Cond.initialized "java/lang/Math", Cond.code Lib.Math.max.name Lib.Math.max.code 2 (some .int), Cond.methodLink RX4 26 yX5_putRowAhead, Cond.instanceMethod yX5_putRowAhead, Cond.selects RX5 yX5_putRowAhead yX5_putRowAhead, Cond.code yX5_putRowAhead cX5_putRowAhead 5 none, Cond.constantLong RX5 29 (10), Cond.methodLink RX5 31 yX5_putFirst, Cond.instanceMethod yX5_putFirst, Cond.selects RX5 yX5_putFirst yX5_putFirst, Cond.code yX5_putFirst cX5_putFirst 2 none]
def wsX4_step : List Cond := .code yX4_step cX4_step 4 (some .boolean) :: ((wsX4_step_r1 ++ wsX4_step_r2) ++ wsX40 ++ wsX50 ++ wsX60)
def wsX5_size : List Cond := .code yX5_size cX5_size 1 (some .int) :: ([.fieldLink RX5 21 "FirstSigns$Row" "length" "I"] ++ wsX50)
def wsX4_countRead_r1 : List Cond := [Cond.fieldLink RX4 20 "FirstSigns$Reader" "ahead" "LFirstSigns$Row;", Cond.methodLink RX4 43 yX4_start, Cond.instanceMethod yX4_start, Cond.selects RX4 yX4_start yX4_start, Cond.initialized RX4, Cond.code yX4_start cX4_start 2 none, Cond.fieldLink RX4 14 "FirstSigns$Reader" "left" "LFirstSigns$Row;", Cond.methodLink RX4 23 yX5_clear, Cond.instanceMethod yX5_clear, Cond.selects RX5 yX5_clear yX5_clear, Cond.initialized RX5, Cond.code yX5_clear cX5_clear 1 none, Cond.fieldLink RX5 21 "FirstSigns$Row" "length" "I", Cond.methodLink RX4 26 yX5_putRowAhead, Cond.instanceMethod yX5_putRowAhead, Cond.selects RX5 yX5_putRowAhead yX5_putRowAhead, Cond.code yX5_putRowAhead cX5_putRowAhead 5 none, Cond.constantLong RX5 29 (10), Cond.methodLink RX5 31 yX5_putFirst, Cond.instanceMethod yX5_putFirst, Cond.selects RX5 yX5_putFirst yX5_putFirst, Cond.code yX5_putFirst cX5_putFirst 2 none, Cond.fieldLink RX5 15 "FirstSigns$Row" "signs" "[I", Cond.methodLink RX4 46 yX5_size]
def wsX4_countRead_r2 : List Cond := [Cond.instanceMethod yX5_size, Cond.selects RX5 yX5_size yX5_size, Cond.code yX5_size cX5_size 1 (some .int), Cond.methodLink RX4 30 yX5_fromFirst, Cond.instanceMethod yX5_fromFirst, Cond.selects RX5 yX5_fromFirst yX5_fromFirst, Cond.code yX5_fromFirst cX5_fromFirst 2 (some .int), Cond.methodLink RX5 25 yX5_fromLast, Cond.instanceMethod yX5_fromLast, Cond.selects RX5 yX5_fromLast yX5_fromLast, Cond.code yX5_fromLast cX5_fromLast 2 (some .int), Cond.methodLink RX4 50 yX4_step, Cond.instanceMethod yX4_step, Cond.selects RX4 yX4_step yX4_step, Cond.code yX4_step cX4_step 4 (some .boolean), Cond.methodLink RX4 34 yX6_ruleOf, Cond.instanceMethod yX6_ruleOf, Cond.selects RX6 yX6_ruleOf yX6_ruleOf, Cond.initialized RX6, Cond.code yX6_ruleOf cX6_ruleOf 3 (some .int), Cond.fieldLink RX6 9 "FirstSigns$Table" "rules" "[I", Cond.static yX7_isSign, Cond.initialized RX7, Cond.code yX7_isSign cX7_isSign 1 (some .boolean)]
def wsX4_countRead_r3 : List Cond := [Cond.static yX7_isLetter, Cond.code yX7_isLetter cX7_isLetter 1 (some .boolean), Cond.methodLink RX4 40 yX5_dropFirst, Cond.instanceMethod yX5_dropFirst, Cond.selects RX5 yX5_dropFirst yX5_dropFirst, Cond.code yX5_dropFirst cX5_dropFirst 1 none, Cond.methodLink RX5 9 Lib.Math.max.name, Cond.static Lib.Math.max.name, Cond.initialized "java/lang/Math", Cond.code Lib.Math.max.name Lib.Math.max.code 2 (some .int)]
def wsX4_countRead : List Cond := .code yX4_countRead cX4_countRead 6 (some .int) :: ((wsX4_countRead_r1 ++ (wsX4_countRead_r2 ++ wsX4_countRead_r3)) ++ wsX40 ++ wsX50 ++ wsX60)
def wsX4_readsToEnd : List Cond := .code yX4_readsToEnd cX4_readsToEnd 1 (some .boolean) :: ([.fieldLink RX4 20 "FirstSigns$Reader" "ahead" "LFirstSigns$Row;", .methodLink RX4 46 yX5_size, .instanceMethod yX5_size, .selects RX5 yX5_size yX5_size, .initialized RX5, .code yX5_size cX5_size 1 (some .int), .fieldLink RX5 21 "FirstSigns$Row" "length" "I"] ++ wsX40 ++ wsX50)
def wsX5_sameFromFirst : List Cond := .code yX5_sameFromFirst cX5_sameFromFirst 4 (some .int) :: ([.fieldLink RX5 21 "FirstSigns$Row" "length" "I", .methodLink RX5 41 Lib.Math.min.name, .static Lib.Math.min.name, .initialized "java/lang/Math", .code Lib.Math.min.name Lib.Math.min.code 2 (some .int), .methodLink RX5 44 yX5_fromFirst, .instanceMethod yX5_fromFirst, .selects RX5 yX5_fromFirst yX5_fromFirst, .initialized RX5, .code yX5_fromFirst cX5_fromFirst 2 (some .int), .methodLink RX5 25 yX5_fromLast, .instanceMethod yX5_fromLast, .selects RX5 yX5_fromLast yX5_fromLast, .code yX5_fromLast cX5_fromLast 2 (some .int), .fieldLink RX5 15 "FirstSigns$Row" "signs" "[I"] ++ wsX50)
def wsX5_sameFromLast : List Cond := .code yX5_sameFromLast cX5_sameFromLast 4 (some .int) :: ([.fieldLink RX5 21 "FirstSigns$Row" "length" "I", .methodLink RX5 41 Lib.Math.min.name, .static Lib.Math.min.name, .initialized "java/lang/Math", .code Lib.Math.min.name Lib.Math.min.code 2 (some .int), .methodLink RX5 25 yX5_fromLast, .instanceMethod yX5_fromLast, .selects RX5 yX5_fromLast yX5_fromLast, .initialized RX5, .code yX5_fromLast cX5_fromLast 2 (some .int), .fieldLink RX5 15 "FirstSigns$Row" "signs" "[I"] ++ wsX50)
def wsX5_isSame : List Cond := .code yX5_isSame cX5_isSame 2 (some .boolean) :: ([.fieldLink RX5 21 "FirstSigns$Row" "length" "I", .methodLink RX5 47 yX5_sameFromLast, .instanceMethod yX5_sameFromLast, .selects RX5 yX5_sameFromLast yX5_sameFromLast, .initialized RX5, .code yX5_sameFromLast cX5_sameFromLast 4 (some .int), .methodLink RX5 41 Lib.Math.min.name, .static Lib.Math.min.name, .initialized "java/lang/Math", .code Lib.Math.min.name Lib.Math.min.code 2 (some .int), .methodLink RX5 25 yX5_fromLast, .instanceMethod yX5_fromLast, .selects RX5 yX5_fromLast yX5_fromLast, .code yX5_fromLast cX5_fromLast 2 (some .int), .fieldLink RX5 15 "FirstSigns$Row" "signs" "[I"] ++ wsX50)
def wsX6_setRule : List Cond := .code yX6_setRule cX6_setRule 4 none :: ([.fieldLink RX6 9 "FirstSigns$Table" "rules" "[I", .static yX7_isSign, .initialized RX7, .code yX7_isSign cX7_isSign 1 (some .boolean), .static yX7_isLetter, .code yX7_isLetter cX7_isLetter 1 (some .boolean)] ++ wsX60)
def wsX6_setClaim : List Cond := .code yX6_setClaim cX6_setClaim 3 none :: ([.fieldLink RX6 15 "FirstSigns$Table" "claims" "[I", .static yX7_isSign, .initialized RX7, .code yX7_isSign cX7_isSign 1 (some .boolean)] ++ wsX60)
def wsX6_countPresent : List Cond := .code yX6_countPresent cX6_countPresent 6 (some .int) :: ([])
def wsX6_countRules : List Cond := .code yX6_countRules cX6_countRules 1 (some .int) :: ([.fieldLink RX6 9 "FirstSigns$Table" "rules" "[I", .methodLink RX6 31 yX6_countPresent, .static yX6_countPresent, .initialized RX6, .code yX6_countPresent cX6_countPresent 6 (some .int)] ++ wsX60)
def wsX6_countClaims : List Cond := .code yX6_countClaims cX6_countClaims 1 (some .int) :: ([.fieldLink RX6 15 "FirstSigns$Table" "claims" "[I", .methodLink RX6 31 yX6_countPresent, .static yX6_countPresent, .initialized RX6, .code yX6_countPresent cX6_countPresent 6 (some .int)] ++ wsX60)
def wsX7_init_r1 : List Cond := [Cond.methodLink RX7 3 objectInit, Cond.instanceMethod objectInit, Cond.code objectInit ⟨#[0xb1]⟩ 1 none, Cond.classLink RX7 9 RX6, Cond.instantiable RX6 2, Cond.initialized RX6, Cond.fieldLink RX7 12 "FirstSigns" "table" "LFirstSigns$Table;", Cond.classLink RX7 18 RX3, Cond.instantiable RX3 3, Cond.initialized RX3, Cond.fieldLink RX7 21 "FirstSigns" "past" "LFirstSigns$Past;", Cond.classLink RX7 25 RX4, Cond.instantiable RX4 2, Cond.initialized RX4, Cond.fieldLink RX7 28 "FirstSigns" "reader" "LFirstSigns$Reader;", Cond.classLink RX7 32 RX2, Cond.instantiable RX2 1, Cond.initialized RX2, Cond.fieldLink RX7 35 "FirstSigns" "norms" "LFirstSigns$Norms;", Cond.classLink RX7 39 RX0, Cond.instantiable RX0 2, Cond.initialized RX0, Cond.fieldLink RX7 42 "FirstSigns" "counts" "LFirstSigns$Counts;", Cond.classLink RX7 46 RX1]
def wsX7_init_r2 : List Cond := [Cond.instantiable RX1 1, Cond.initialized RX1, Cond.fieldLink RX7 49 "FirstSigns" "forms" "LFirstSigns$Forms;", Cond.classLink RX7 53 RX5, Cond.instantiable RX5 2, Cond.initialized RX5, Cond.fieldLink RX7 58 "FirstSigns" "one" "LFirstSigns$Row;", Cond.fieldLink RX7 62 "FirstSigns" "two" "LFirstSigns$Row;", Cond.methodLink RX7 11 yX6_init, Cond.instanceMethod yX6_init, Cond.code yX6_init cX6_init 1 none, Cond.methodLink RX6 3 objectInit, Cond.arrayClass .int, Cond.fieldLink RX6 9 "FirstSigns$Table" "rules" "[I", Cond.fieldLink RX6 15 "FirstSigns$Table" "claims" "[I", Cond.methodLink RX6 18 yJ7_fill_53178, Cond.static yJ7_fill_53178, Cond.initialized RJ7, Cond.code yJ7_fill_53178 cJ7_fill_53178 4 none, Cond.methodLink RX7 20 yX3_init, Cond.instanceMethod yX3_init, Cond.code yX3_init cX3_init 2 none, Cond.methodLink RX3 3 objectInit, Cond.classLink RX3 9 RX6]
def wsX7_init_r3 : List Cond := [Cond.fieldLink RX3 11 "FirstSigns$Past" "ahead" "[LFirstSigns$Table;", Cond.methodLink RX3 17 yX6_init, Cond.instanceMethod yX4_init, Cond.code yX4_init cX4_init 1 none, Cond.methodLink RX4 3 objectInit, Cond.classLink RX4 9 RX5, Cond.fieldLink RX4 14 "FirstSigns$Reader" "left" "LFirstSigns$Row;", Cond.fieldLink RX4 20 "FirstSigns$Reader" "ahead" "LFirstSigns$Row;", Cond.methodLink RX4 11 yX5_init, Cond.instanceMethod yX5_init, Cond.code yX5_init cX5_init 2 none, Cond.methodLink RX5 3 objectInit, Cond.methodLink RX5 9 Lib.Math.max.name, Cond.static Lib.Math.max.name, Cond.initialized "java/lang/Math", Cond.code Lib.Math.max.name Lib.Math.max.code 2 (some .int), Cond.fieldLink RX5 15 "FirstSigns$Row" "signs" "[I", Cond.instanceMethod yX2_init, Cond.code yX2_init cX2_init 1 none, Cond.methodLink RX2 3 objectInit, Cond.fieldLink RX2 9 "FirstSigns$Norms" "ofSign" "[I", Cond.instanceMethod yX0_init, Cond.code yX0_init cX0_init 1 none, Cond.methodLink RX0 3 objectInit]
def wsX7_init_r4 : List Cond := [Cond.classLink RX0 9 "[[I", Cond.fieldLink RX0 11 "FirstSigns$Counts" "ofSign" "[[I", Cond.fieldLink RX0 16 "FirstSigns$Counts" "ofPart" "[I", Cond.methodLink RX7 48 yX1_init, Cond.instanceMethod yX1_init, Cond.code yX1_init cX1_init 2 none, Cond.methodLink RX1 3 objectInit, Cond.classLink RX1 9 RX5, Cond.fieldLink RX1 11 "FirstSigns$Forms" "ofSign" "[LFirstSigns$Row;", Cond.methodLink RX1 17 yX5_init, Cond.methodLink RX7 55 yX5_init]
def wsX7_init : List Cond := .code yX7_init cX7_init 1 none :: ((wsX7_init_r1 ++ (wsX7_init_r2 ++ (wsX7_init_r3 ++ wsX7_init_r4))) ++ wsX60 ++ wsX70 ++ wsX30 ++ wsX40 ++ wsX20 ++ wsX00 ++ wsX10 ++ wsX50)
def wsX7_isRow : List Cond := .code yX7_isRow cX7_isRow 9 (some .boolean) :: ([.constantLong RX7 203 (10)])
def wsX7_rule_r1 : List Cond := [Cond.fieldLink RX7 21 "FirstSigns" "past" "LFirstSigns$Past;", Cond.fieldLink RX7 12 "FirstSigns" "table" "LFirstSigns$Table;", Cond.methodLink RX7 65 yX7_isSign, Cond.static yX7_isSign, Cond.initialized RX7, Cond.code yX7_isSign cX7_isSign 1 (some .boolean), Cond.methodLink RX7 69 yX7_isLetter, Cond.static yX7_isLetter, Cond.code yX7_isLetter cX7_isLetter 1 (some .boolean), Cond.methodLink RX7 72 yX7_isRow, Cond.static yX7_isRow, Cond.code yX7_isRow cX7_isRow 9 (some .boolean), Cond.constantLong RX7 203 (10), Cond.methodLink RX7 76 yX3_keep, Cond.instanceMethod yX3_keep, Cond.selects RX3 yX3_keep yX3_keep, Cond.initialized RX3, Cond.code yX3_keep cX3_keep 2 none, Cond.fieldLink RX3 11 "FirstSigns$Past" "ahead" "[LFirstSigns$Table;", Cond.fieldLink RX3 22 "FirstSigns$Past" "next" "I", Cond.fieldLink RX3 18 "FirstSigns$Past" "kept" "I", Cond.methodLink RX3 29 Lib.Math.min.name, Cond.static Lib.Math.min.name, Cond.initialized "java/lang/Math"]
def wsX7_rule_r2 : List Cond := [Cond.code Lib.Math.min.name Lib.Math.min.code 2 (some .int), Cond.methodLink RX3 25 yX6_copyFrom, Cond.instanceMethod yX6_copyFrom, Cond.selects RX6 yX6_copyFrom yX6_copyFrom, Cond.initialized RX6, Cond.code yX6_copyFrom cX6_copyFrom 2 none, Cond.fieldLink RX6 9 "FirstSigns$Table" "rules" "[I", Cond.methodLink RX6 35 arraycopyName, Cond.native arraycopyName, Cond.static arraycopyName, Cond.initialized "java/lang/System", Cond.fieldLink RX6 15 "FirstSigns$Table" "claims" "[I", Cond.methodLink RX7 80 yX6_ruleOf, Cond.instanceMethod yX6_ruleOf, Cond.selects RX6 yX6_ruleOf yX6_ruleOf, Cond.code yX6_ruleOf cX6_ruleOf 3 (some .int), Cond.methodLink RX7 84 yX6_setRule, Cond.instanceMethod yX6_setRule, Cond.selects RX6 yX6_setRule yX6_setRule, Cond.code yX6_setRule cX6_setRule 4 none]
def wsX7_rule : List Cond := .code yX7_rule cX7_rule 5 (some .int) :: ((wsX7_rule_r1 ++ wsX7_rule_r2) ++ wsX70 ++ wsX30 ++ wsX60)
def wsX7_ofRule : List Cond := .code yX7_ofRule cX7_ofRule 3 (some .int) :: ([.fieldLink RX7 12 "FirstSigns" "table" "LFirstSigns$Table;", .methodLink RX7 65 yX7_isSign, .static yX7_isSign, .initialized RX7, .code yX7_isSign cX7_isSign 1 (some .boolean), .methodLink RX7 69 yX7_isLetter, .static yX7_isLetter, .code yX7_isLetter cX7_isLetter 1 (some .boolean), .methodLink RX7 80 yX6_ruleOf, .instanceMethod yX6_ruleOf, .selects RX6 yX6_ruleOf yX6_ruleOf, .initialized RX6, .code yX6_ruleOf cX6_ruleOf 3 (some .int), .fieldLink RX6 9 "FirstSigns$Table" "rules" "[I"] ++ wsX70 ++ wsX60)
def wsX7_isRowOfSigns : List Cond := .code yX7_isRowOfSigns cX7_isRowOfSigns 1 (some .boolean) :: ([.methodLink RX7 72 yX7_isRow, .static yX7_isRow, .initialized RX7, .code yX7_isRow cX7_isRow 9 (some .boolean), .constantLong RX7 203 (10)])
def wsX7_read_r1 : List Cond := [Cond.fieldLink RX7 28 "FirstSigns" "reader" "LFirstSigns$Reader;", Cond.fieldLink RX7 12 "FirstSigns" "table" "LFirstSigns$Table;", Cond.fieldLink RX7 95 "FirstSigns$Reader" "left" "LFirstSigns$Row;", Cond.methodLink RX7 88 yX7_isRowOfSigns, Cond.static yX7_isRowOfSigns, Cond.initialized RX7, Cond.code yX7_isRowOfSigns cX7_isRowOfSigns 1 (some .boolean), Cond.methodLink RX7 72 yX7_isRow, Cond.static yX7_isRow, Cond.code yX7_isRow cX7_isRow 9 (some .boolean), Cond.constantLong RX7 203 (10), Cond.methodLink RX7 91 yX4_countRead, Cond.instanceMethod yX4_countRead, Cond.selects RX4 yX4_countRead yX4_countRead, Cond.initialized RX4, Cond.code yX4_countRead cX4_countRead 6 (some .int), Cond.fieldLink RX4 20 "FirstSigns$Reader" "ahead" "LFirstSigns$Row;", Cond.methodLink RX4 43 yX4_start, Cond.instanceMethod yX4_start, Cond.selects RX4 yX4_start yX4_start, Cond.code yX4_start cX4_start 2 none, Cond.fieldLink RX4 14 "FirstSigns$Reader" "left" "LFirstSigns$Row;", Cond.methodLink RX4 23 yX5_clear, Cond.instanceMethod yX5_clear]
def wsX7_read_r2 : List Cond := [Cond.selects RX5 yX5_clear yX5_clear, Cond.initialized RX5, Cond.code yX5_clear cX5_clear 1 none, Cond.fieldLink RX5 21 "FirstSigns$Row" "length" "I", Cond.methodLink RX4 26 yX5_putRowAhead, Cond.instanceMethod yX5_putRowAhead, Cond.selects RX5 yX5_putRowAhead yX5_putRowAhead, Cond.code yX5_putRowAhead cX5_putRowAhead 5 none, Cond.constantLong RX5 29 (10), Cond.methodLink RX5 31 yX5_putFirst, Cond.instanceMethod yX5_putFirst, Cond.selects RX5 yX5_putFirst yX5_putFirst, Cond.code yX5_putFirst cX5_putFirst 2 none, Cond.fieldLink RX5 15 "FirstSigns$Row" "signs" "[I", Cond.methodLink RX4 46 yX5_size, Cond.instanceMethod yX5_size, Cond.selects RX5 yX5_size yX5_size, Cond.code yX5_size cX5_size 1 (some .int), Cond.methodLink RX4 30 yX5_fromFirst, Cond.instanceMethod yX5_fromFirst, Cond.selects RX5 yX5_fromFirst yX5_fromFirst, Cond.code yX5_fromFirst cX5_fromFirst 2 (some .int), Cond.methodLink RX5 25 yX5_fromLast, Cond.instanceMethod yX5_fromLast]
def wsX7_read_r3 : List Cond := [Cond.selects RX5 yX5_fromLast yX5_fromLast, Cond.code yX5_fromLast cX5_fromLast 2 (some .int), Cond.methodLink RX4 50 yX4_step, Cond.instanceMethod yX4_step, Cond.selects RX4 yX4_step yX4_step, Cond.code yX4_step cX4_step 4 (some .boolean), Cond.methodLink RX4 34 yX6_ruleOf, Cond.instanceMethod yX6_ruleOf, Cond.selects RX6 yX6_ruleOf yX6_ruleOf, Cond.initialized RX6, Cond.code yX6_ruleOf cX6_ruleOf 3 (some .int), Cond.fieldLink RX6 9 "FirstSigns$Table" "rules" "[I", Cond.static yX7_isSign, Cond.code yX7_isSign cX7_isSign 1 (some .boolean), Cond.static yX7_isLetter, Cond.code yX7_isLetter cX7_isLetter 1 (some .boolean), Cond.methodLink RX4 40 yX5_dropFirst, Cond.instanceMethod yX5_dropFirst, Cond.selects RX5 yX5_dropFirst yX5_dropFirst, Cond.code yX5_dropFirst cX5_dropFirst 1 none, Cond.methodLink RX5 9 Lib.Math.max.name, Cond.static Lib.Math.max.name, Cond.initialized "java/lang/Math", Cond.code Lib.Math.max.name Lib.Math.max.code 2 (some .int)]
def wsX7_read_r4 : List Cond := [Cond.methodLink RX7 98 yX5_size, Cond.methodLink RX7 102 yX5_fromFirst, Cond.methodLink RX7 106 yX4_readsToEnd, Cond.instanceMethod yX4_readsToEnd, Cond.selects RX4 yX4_readsToEnd yX4_readsToEnd, Cond.code yX4_readsToEnd cX4_readsToEnd 1 (some .boolean)]
def wsX7_read : List Cond := .code yX7_read cX7_read 6 (some .int) :: ((wsX7_read_r1 ++ (wsX7_read_r2 ++ (wsX7_read_r3 ++ wsX7_read_r4))) ++ wsX70 ++ wsX40 ++ wsX50 ++ wsX60)
def wsX7_norm_r1 : List Cond := [Cond.fieldLink RX7 35 "FirstSigns" "norms" "LFirstSigns$Norms;", Cond.fieldLink RX7 12 "FirstSigns" "table" "LFirstSigns$Table;", Cond.methodLink RX7 88 yX7_isRowOfSigns, Cond.static yX7_isRowOfSigns, Cond.initialized RX7, Cond.code yX7_isRowOfSigns cX7_isRowOfSigns 1 (some .boolean), Cond.methodLink RX7 72 yX7_isRow, Cond.static yX7_isRow, Cond.code yX7_isRow cX7_isRow 9 (some .boolean), Cond.constantLong RX7 203 (10), Cond.methodLink RX7 110 yX2_find, Cond.instanceMethod yX2_find, Cond.selects RX2 yX2_find yX2_find, Cond.initialized RX2, Cond.code yX2_find cX2_find 4 none, Cond.fieldLink RX2 9 "FirstSigns$Norms" "ofSign" "[I", Cond.methodLink RX2 15 yJ7_fill_53178, Cond.static yJ7_fill_53178, Cond.initialized RJ7, Cond.code yJ7_fill_53178 cJ7_fill_53178 4 none, Cond.methodLink RX2 21 yX2_leastLetter, Cond.instanceMethod yX2_leastLetter, Cond.selects RX2 yX2_leastLetter yX2_leastLetter, Cond.code yX2_leastLetter cX2_leastLetter 7 (some .int)]
def wsX7_norm_r2 : List Cond := [Cond.methodLink RX2 25 yX2_byLetter, Cond.instanceMethod yX2_byLetter, Cond.selects RX2 yX2_byLetter yX2_byLetter, Cond.code yX2_byLetter cX2_byLetter 6 (some .int), Cond.methodLink RX2 33 yX6_ruleOf, Cond.instanceMethod yX6_ruleOf, Cond.selects RX6 yX6_ruleOf yX6_ruleOf, Cond.initialized RX6, Cond.code yX6_ruleOf cX6_ruleOf 3 (some .int), Cond.fieldLink RX6 9 "FirstSigns$Table" "rules" "[I", Cond.static yX7_isSign, Cond.code yX7_isSign cX7_isSign 1 (some .boolean), Cond.static yX7_isLetter, Cond.code yX7_isLetter cX7_isLetter 1 (some .boolean), Cond.methodLink RX2 39 yX2_ofRow, Cond.instanceMethod yX2_ofRow, Cond.selects RX2 yX2_ofRow yX2_ofRow, Cond.code yX2_ofRow cX2_ofRow 5 (some .int), Cond.methodLink RX2 29 yX2_of, Cond.instanceMethod yX2_of, Cond.selects RX2 yX2_of yX2_of, Cond.code yX2_of cX2_of 2 (some .int), Cond.methodLink RX7 113 yX2_ofRow]
def wsX7_norm : List Cond := .code yX7_norm cX7_norm 2 (some .int) :: ((wsX7_norm_r1 ++ wsX7_norm_r2) ++ wsX70 ++ wsX20 ++ wsX60)
def wsX7_leastWord_r1 : List Cond := [Cond.fieldLink RX7 28 "FirstSigns" "reader" "LFirstSigns$Reader;", Cond.fieldLink RX7 35 "FirstSigns" "norms" "LFirstSigns$Norms;", Cond.fieldLink RX7 12 "FirstSigns" "table" "LFirstSigns$Table;", Cond.fieldLink RX7 95 "FirstSigns$Reader" "left" "LFirstSigns$Row;", Cond.constantLong RX7 203 (10), Cond.methodLink RX7 205 yX4_start, Cond.instanceMethod yX4_start, Cond.selects RX4 yX4_start yX4_start, Cond.initialized RX4, Cond.code yX4_start cX4_start 2 none, Cond.fieldLink RX4 14 "FirstSigns$Reader" "left" "LFirstSigns$Row;", Cond.methodLink RX4 23 yX5_clear, Cond.instanceMethod yX5_clear, Cond.selects RX5 yX5_clear yX5_clear, Cond.initialized RX5, Cond.code yX5_clear cX5_clear 1 none, Cond.fieldLink RX5 21 "FirstSigns$Row" "length" "I", Cond.methodLink RX4 26 yX5_putRowAhead, Cond.instanceMethod yX5_putRowAhead, Cond.selects RX5 yX5_putRowAhead yX5_putRowAhead, Cond.code yX5_putRowAhead cX5_putRowAhead 5 none, Cond.constantLong RX5 29 (10), Cond.methodLink RX5 31 yX5_putFirst, Cond.instanceMethod yX5_putFirst]
def wsX7_leastWord_r2 : List Cond := [Cond.selects RX5 yX5_putFirst yX5_putFirst, Cond.code yX5_putFirst cX5_putFirst 2 none, Cond.fieldLink RX5 15 "FirstSigns$Row" "signs" "[I", Cond.methodLink RX7 102 yX5_fromFirst, Cond.instanceMethod yX5_fromFirst, Cond.selects RX5 yX5_fromFirst yX5_fromFirst, Cond.code yX5_fromFirst cX5_fromFirst 2 (some .int), Cond.methodLink RX5 25 yX5_fromLast, Cond.instanceMethod yX5_fromLast, Cond.selects RX5 yX5_fromLast yX5_fromLast, Cond.code yX5_fromLast cX5_fromLast 2 (some .int), Cond.methodLink RX7 208 yX2_leastLetter, Cond.instanceMethod yX2_leastLetter, Cond.selects RX2 yX2_leastLetter yX2_leastLetter, Cond.initialized RX2, Cond.code yX2_leastLetter cX2_leastLetter 7 (some .int), Cond.methodLink RX2 25 yX2_byLetter, Cond.instanceMethod yX2_byLetter, Cond.selects RX2 yX2_byLetter yX2_byLetter, Cond.code yX2_byLetter cX2_byLetter 6 (some .int), Cond.methodLink RX2 33 yX6_ruleOf, Cond.instanceMethod yX6_ruleOf, Cond.selects RX6 yX6_ruleOf yX6_ruleOf, Cond.initialized RX6]
def wsX7_leastWord_r3 : List Cond := [Cond.code yX6_ruleOf cX6_ruleOf 3 (some .int), Cond.fieldLink RX6 9 "FirstSigns$Table" "rules" "[I", Cond.static yX7_isSign, Cond.initialized RX7, Cond.code yX7_isSign cX7_isSign 1 (some .boolean), Cond.static yX7_isLetter, Cond.code yX7_isLetter cX7_isLetter 1 (some .boolean), Cond.methodLink RX2 39 yX2_ofRow, Cond.instanceMethod yX2_ofRow, Cond.selects RX2 yX2_ofRow yX2_ofRow, Cond.code yX2_ofRow cX2_ofRow 5 (some .int), Cond.methodLink RX2 29 yX2_of, Cond.instanceMethod yX2_of, Cond.selects RX2 yX2_of yX2_of, Cond.code yX2_of cX2_of 2 (some .int), Cond.fieldLink RX2 9 "FirstSigns$Norms" "ofSign" "[I", Cond.methodLink RX7 212 yX4_step, Cond.instanceMethod yX4_step, Cond.selects RX4 yX4_step yX4_step, Cond.code yX4_step cX4_step 4 (some .boolean), Cond.methodLink RX4 30 yX5_fromFirst, Cond.methodLink RX4 34 yX6_ruleOf, Cond.methodLink RX4 40 yX5_dropFirst, Cond.instanceMethod yX5_dropFirst]
def wsX7_leastWord_r4 : List Cond := [Cond.selects RX5 yX5_dropFirst yX5_dropFirst, Cond.code yX5_dropFirst cX5_dropFirst 1 none, Cond.methodLink RX5 9 Lib.Math.max.name, Cond.static Lib.Math.max.name, Cond.initialized "java/lang/Math", Cond.code Lib.Math.max.name Lib.Math.max.code 2 (some .int)]
def wsX7_leastWord : List Cond := .code yX7_leastWord cX7_leastWord 7 (some .long) :: ((wsX7_leastWord_r1 ++ (wsX7_leastWord_r2 ++ (wsX7_leastWord_r3 ++ wsX7_leastWord_r4))) ++ wsX70 ++ wsX40 ++ wsX50 ++ wsX60 ++ wsX20)
def wsX7_least_r1 : List Cond := [Cond.constantLong RX7 116 (-9223372036854775808), Cond.fieldLink RX7 35 "FirstSigns" "norms" "LFirstSigns$Norms;", Cond.fieldLink RX7 12 "FirstSigns" "table" "LFirstSigns$Table;", Cond.constantLong RX7 118 (-9), Cond.methodLink RX7 88 yX7_isRowOfSigns, Cond.static yX7_isRowOfSigns, Cond.initialized RX7, Cond.code yX7_isRowOfSigns cX7_isRowOfSigns 1 (some .boolean), Cond.methodLink RX7 72 yX7_isRow, Cond.static yX7_isRow, Cond.code yX7_isRow cX7_isRow 9 (some .boolean), Cond.constantLong RX7 203 (10), Cond.methodLink RX7 110 yX2_find, Cond.instanceMethod yX2_find, Cond.selects RX2 yX2_find yX2_find, Cond.initialized RX2, Cond.code yX2_find cX2_find 4 none, Cond.fieldLink RX2 9 "FirstSigns$Norms" "ofSign" "[I", Cond.methodLink RX2 15 yJ7_fill_53178, Cond.static yJ7_fill_53178, Cond.initialized RJ7, Cond.code yJ7_fill_53178 cJ7_fill_53178 4 none, Cond.methodLink RX2 21 yX2_leastLetter, Cond.instanceMethod yX2_leastLetter]
def wsX7_least_r2 : List Cond := [Cond.selects RX2 yX2_leastLetter yX2_leastLetter, Cond.code yX2_leastLetter cX2_leastLetter 7 (some .int), Cond.methodLink RX2 25 yX2_byLetter, Cond.instanceMethod yX2_byLetter, Cond.selects RX2 yX2_byLetter yX2_byLetter, Cond.code yX2_byLetter cX2_byLetter 6 (some .int), Cond.methodLink RX2 33 yX6_ruleOf, Cond.instanceMethod yX6_ruleOf, Cond.selects RX6 yX6_ruleOf yX6_ruleOf, Cond.initialized RX6, Cond.code yX6_ruleOf cX6_ruleOf 3 (some .int), Cond.fieldLink RX6 9 "FirstSigns$Table" "rules" "[I", Cond.static yX7_isSign, Cond.code yX7_isSign cX7_isSign 1 (some .boolean), Cond.static yX7_isLetter, Cond.code yX7_isLetter cX7_isLetter 1 (some .boolean), Cond.methodLink RX2 39 yX2_ofRow, Cond.instanceMethod yX2_ofRow, Cond.selects RX2 yX2_ofRow yX2_ofRow, Cond.code yX2_ofRow cX2_ofRow 5 (some .int), Cond.methodLink RX2 29 yX2_of, Cond.instanceMethod yX2_of, Cond.selects RX2 yX2_of yX2_of, Cond.code yX2_of cX2_of 2 (some .int)]
def wsX7_least_r3 : List Cond := [Cond.methodLink RX7 113 yX2_ofRow, Cond.methodLink RX7 120 yX7_leastWord, Cond.instanceMethod yX7_leastWord, Cond.selects RX7 yX7_leastWord yX7_leastWord, Cond.code yX7_leastWord cX7_leastWord 7 (some .long), Cond.fieldLink RX7 28 "FirstSigns" "reader" "LFirstSigns$Reader;", Cond.fieldLink RX7 95 "FirstSigns$Reader" "left" "LFirstSigns$Row;", Cond.methodLink RX7 205 yX4_start, Cond.instanceMethod yX4_start, Cond.selects RX4 yX4_start yX4_start, Cond.initialized RX4, Cond.code yX4_start cX4_start 2 none, Cond.fieldLink RX4 14 "FirstSigns$Reader" "left" "LFirstSigns$Row;", Cond.methodLink RX4 23 yX5_clear, Cond.instanceMethod yX5_clear, Cond.selects RX5 yX5_clear yX5_clear, Cond.initialized RX5, Cond.code yX5_clear cX5_clear 1 none, Cond.fieldLink RX5 21 "FirstSigns$Row" "length" "I", Cond.methodLink RX4 26 yX5_putRowAhead, Cond.instanceMethod yX5_putRowAhead, Cond.selects RX5 yX5_putRowAhead yX5_putRowAhead, Cond.code yX5_putRowAhead cX5_putRowAhead 5 none, Cond.constantLong RX5 29 (10)]
def wsX7_least_r4 : List Cond := [Cond.methodLink RX5 31 yX5_putFirst, Cond.instanceMethod yX5_putFirst, Cond.selects RX5 yX5_putFirst yX5_putFirst, Cond.code yX5_putFirst cX5_putFirst 2 none, Cond.fieldLink RX5 15 "FirstSigns$Row" "signs" "[I", Cond.methodLink RX7 102 yX5_fromFirst, Cond.instanceMethod yX5_fromFirst, Cond.selects RX5 yX5_fromFirst yX5_fromFirst, Cond.code yX5_fromFirst cX5_fromFirst 2 (some .int), Cond.methodLink RX5 25 yX5_fromLast, Cond.instanceMethod yX5_fromLast, Cond.selects RX5 yX5_fromLast yX5_fromLast, Cond.code yX5_fromLast cX5_fromLast 2 (some .int), Cond.methodLink RX7 208 yX2_leastLetter, Cond.methodLink RX7 212 yX4_step, Cond.instanceMethod yX4_step, Cond.selects RX4 yX4_step yX4_step, Cond.code yX4_step cX4_step 4 (some .boolean), Cond.methodLink RX4 30 yX5_fromFirst, Cond.methodLink RX4 34 yX6_ruleOf, Cond.methodLink RX4 40 yX5_dropFirst, Cond.instanceMethod yX5_dropFirst, Cond.selects RX5 yX5_dropFirst yX5_dropFirst, Cond.code yX5_dropFirst cX5_dropFirst 1 none]
def wsX7_least_r5 : List Cond := [Cond.methodLink RX5 9 Lib.Math.max.name, Cond.static Lib.Math.max.name, Cond.initialized "java/lang/Math", Cond.code Lib.Math.max.name Lib.Math.max.code 2 (some .int)]
def wsX7_least : List Cond := .code yX7_least cX7_least 3 (some .long) :: ((wsX7_least_r1 ++ (wsX7_least_r2 ++ (wsX7_least_r3 ++ (wsX7_least_r4 ++ wsX7_least_r5)))) ++ wsX70 ++ wsX20 ++ wsX60 ++ wsX40 ++ wsX50)
def wsX7_words_r1 : List Cond := [Cond.fieldLink RX7 42 "FirstSigns" "counts" "LFirstSigns$Counts;", Cond.fieldLink RX7 12 "FirstSigns" "table" "LFirstSigns$Table;", Cond.methodLink RX7 88 yX7_isRowOfSigns, Cond.static yX7_isRowOfSigns, Cond.initialized RX7, Cond.code yX7_isRowOfSigns cX7_isRowOfSigns 1 (some .boolean), Cond.methodLink RX7 72 yX7_isRow, Cond.static yX7_isRow, Cond.code yX7_isRow cX7_isRow 9 (some .boolean), Cond.constantLong RX7 203 (10), Cond.methodLink RX7 124 yX0_find, Cond.instanceMethod yX0_find, Cond.selects RX0 yX0_find yX0_find, Cond.initialized RX0, Cond.code yX0_find cX0_find 5 none, Cond.fieldLink RX0 11 "FirstSigns$Counts" "ofSign" "[[I", Cond.methodLink RX0 20 yX0_byRules, Cond.instanceMethod yX0_byRules, Cond.selects RX0 yX0_byRules yX0_byRules, Cond.code yX0_byRules cX0_byRules 7 (some .int), Cond.methodLink RX0 34 yX6_ruleOf, Cond.instanceMethod yX6_ruleOf, Cond.selects RX6 yX6_ruleOf yX6_ruleOf, Cond.initialized RX6]
def wsX7_words_r2 : List Cond := [Cond.code yX6_ruleOf cX6_ruleOf 3 (some .int), Cond.fieldLink RX6 9 "FirstSigns$Table" "rules" "[I", Cond.static yX7_isSign, Cond.code yX7_isSign cX7_isSign 1 (some .boolean), Cond.static yX7_isLetter, Cond.code yX7_isLetter cX7_isLetter 1 (some .boolean), Cond.methodLink RX0 40 yX0_ofRow, Cond.instanceMethod yX0_ofRow, Cond.selects RX0 yX0_ofRow yX0_ofRow, Cond.code yX0_ofRow cX0_ofRow 4 (some .int), Cond.fieldLink RX0 16 "FirstSigns$Counts" "ofPart" "[I", Cond.methodLink RX0 24 yJ7_fill_53178, Cond.static yJ7_fill_53178, Cond.initialized RJ7, Cond.code yJ7_fill_53178 cJ7_fill_53178 4 none, Cond.methodLink RX0 30 yX0_addSign, Cond.instanceMethod yX0_addSign, Cond.selects RX0 yX0_addSign yX0_addSign, Cond.code yX0_addSign cX0_addSign 6 none, Cond.methodLink RX7 127 yX0_ofRow]
def wsX7_words : List Cond := .code yX7_words cX7_words 3 (some .int) :: ((wsX7_words_r1 ++ wsX7_words_r2) ++ wsX70 ++ wsX00 ++ wsX60)
def wsX7_rowInOrder : List Cond := .code yX7_rowInOrder cX7_rowInOrder 6 (some .int) :: ([])
def wsX7_goesThrough_r1 : List Cond := [Cond.fieldLink RX7 28 "FirstSigns" "reader" "LFirstSigns$Reader;", Cond.fieldLink RX7 12 "FirstSigns" "table" "LFirstSigns$Table;", Cond.fieldLink RX7 95 "FirstSigns$Reader" "left" "LFirstSigns$Row;", Cond.methodLink RX7 91 yX4_countRead, Cond.instanceMethod yX4_countRead, Cond.selects RX4 yX4_countRead yX4_countRead, Cond.initialized RX4, Cond.code yX4_countRead cX4_countRead 6 (some .int), Cond.fieldLink RX4 20 "FirstSigns$Reader" "ahead" "LFirstSigns$Row;", Cond.methodLink RX4 43 yX4_start, Cond.instanceMethod yX4_start, Cond.selects RX4 yX4_start yX4_start, Cond.code yX4_start cX4_start 2 none, Cond.fieldLink RX4 14 "FirstSigns$Reader" "left" "LFirstSigns$Row;", Cond.methodLink RX4 23 yX5_clear, Cond.instanceMethod yX5_clear, Cond.selects RX5 yX5_clear yX5_clear, Cond.initialized RX5, Cond.code yX5_clear cX5_clear 1 none, Cond.fieldLink RX5 21 "FirstSigns$Row" "length" "I", Cond.methodLink RX4 26 yX5_putRowAhead, Cond.instanceMethod yX5_putRowAhead, Cond.selects RX5 yX5_putRowAhead yX5_putRowAhead, Cond.code yX5_putRowAhead cX5_putRowAhead 5 none]
def wsX7_goesThrough_r2 : List Cond := [Cond.constantLong RX5 29 (10), Cond.methodLink RX5 31 yX5_putFirst, Cond.instanceMethod yX5_putFirst, Cond.selects RX5 yX5_putFirst yX5_putFirst, Cond.code yX5_putFirst cX5_putFirst 2 none, Cond.fieldLink RX5 15 "FirstSigns$Row" "signs" "[I", Cond.methodLink RX4 46 yX5_size, Cond.instanceMethod yX5_size, Cond.selects RX5 yX5_size yX5_size, Cond.code yX5_size cX5_size 1 (some .int), Cond.methodLink RX4 30 yX5_fromFirst, Cond.instanceMethod yX5_fromFirst, Cond.selects RX5 yX5_fromFirst yX5_fromFirst, Cond.code yX5_fromFirst cX5_fromFirst 2 (some .int), Cond.methodLink RX5 25 yX5_fromLast, Cond.instanceMethod yX5_fromLast, Cond.selects RX5 yX5_fromLast yX5_fromLast, Cond.code yX5_fromLast cX5_fromLast 2 (some .int), Cond.methodLink RX4 50 yX4_step, Cond.instanceMethod yX4_step, Cond.selects RX4 yX4_step yX4_step, Cond.code yX4_step cX4_step 4 (some .boolean), Cond.methodLink RX4 34 yX6_ruleOf, Cond.instanceMethod yX6_ruleOf]
def wsX7_goesThrough_r3 : List Cond := [Cond.selects RX6 yX6_ruleOf yX6_ruleOf, Cond.initialized RX6, Cond.code yX6_ruleOf cX6_ruleOf 3 (some .int), Cond.fieldLink RX6 9 "FirstSigns$Table" "rules" "[I", Cond.static yX7_isSign, Cond.initialized RX7, Cond.code yX7_isSign cX7_isSign 1 (some .boolean), Cond.static yX7_isLetter, Cond.code yX7_isLetter cX7_isLetter 1 (some .boolean), Cond.methodLink RX4 40 yX5_dropFirst, Cond.instanceMethod yX5_dropFirst, Cond.selects RX5 yX5_dropFirst yX5_dropFirst, Cond.code yX5_dropFirst cX5_dropFirst 1 none, Cond.methodLink RX5 9 Lib.Math.max.name, Cond.static Lib.Math.max.name, Cond.initialized "java/lang/Math", Cond.code Lib.Math.max.name Lib.Math.max.code 2 (some .int), Cond.methodLink RX7 106 yX4_readsToEnd, Cond.instanceMethod yX4_readsToEnd, Cond.selects RX4 yX4_readsToEnd yX4_readsToEnd, Cond.code yX4_readsToEnd cX4_readsToEnd 1 (some .boolean), Cond.methodLink RX7 98 yX5_size]
def wsX7_goesThrough : List Cond := .code yX7_goesThrough cX7_goesThrough 4 (some .boolean) :: ((wsX7_goesThrough_r1 ++ (wsX7_goesThrough_r2 ++ wsX7_goesThrough_r3)) ++ wsX70 ++ wsX40 ++ wsX50 ++ wsX60)
def wsX7_parts_r1 : List Cond := [Cond.constantLong RX7 116 (-9223372036854775808), Cond.constantLong RX7 118 (-9), Cond.methodLink RX7 88 yX7_isRowOfSigns, Cond.static yX7_isRowOfSigns, Cond.initialized RX7, Cond.code yX7_isRowOfSigns cX7_isRowOfSigns 1 (some .boolean), Cond.methodLink RX7 72 yX7_isRow, Cond.static yX7_isRow, Cond.code yX7_isRow cX7_isRow 9 (some .boolean), Cond.constantLong RX7 203 (10), Cond.methodLink RX7 129 yX7_rowInOrder, Cond.static yX7_rowInOrder, Cond.code yX7_rowInOrder cX7_rowInOrder 6 (some .int), Cond.methodLink RX7 132 yX7_goesThrough, Cond.instanceMethod yX7_goesThrough, Cond.selects RX7 yX7_goesThrough yX7_goesThrough, Cond.code yX7_goesThrough cX7_goesThrough 4 (some .boolean), Cond.fieldLink RX7 28 "FirstSigns" "reader" "LFirstSigns$Reader;", Cond.fieldLink RX7 12 "FirstSigns" "table" "LFirstSigns$Table;", Cond.fieldLink RX7 95 "FirstSigns$Reader" "left" "LFirstSigns$Row;", Cond.methodLink RX7 91 yX4_countRead, Cond.instanceMethod yX4_countRead, Cond.selects RX4 yX4_countRead yX4_countRead, Cond.initialized RX4]
def wsX7_parts_r2 : List Cond := [Cond.code yX4_countRead cX4_countRead 6 (some .int), Cond.fieldLink RX4 20 "FirstSigns$Reader" "ahead" "LFirstSigns$Row;", Cond.methodLink RX4 43 yX4_start, Cond.instanceMethod yX4_start, Cond.selects RX4 yX4_start yX4_start, Cond.code yX4_start cX4_start 2 none, Cond.fieldLink RX4 14 "FirstSigns$Reader" "left" "LFirstSigns$Row;", Cond.methodLink RX4 23 yX5_clear, Cond.instanceMethod yX5_clear, Cond.selects RX5 yX5_clear yX5_clear, Cond.initialized RX5, Cond.code yX5_clear cX5_clear 1 none, Cond.fieldLink RX5 21 "FirstSigns$Row" "length" "I", Cond.methodLink RX4 26 yX5_putRowAhead, Cond.instanceMethod yX5_putRowAhead, Cond.selects RX5 yX5_putRowAhead yX5_putRowAhead, Cond.code yX5_putRowAhead cX5_putRowAhead 5 none, Cond.constantLong RX5 29 (10), Cond.methodLink RX5 31 yX5_putFirst, Cond.instanceMethod yX5_putFirst, Cond.selects RX5 yX5_putFirst yX5_putFirst, Cond.code yX5_putFirst cX5_putFirst 2 none, Cond.fieldLink RX5 15 "FirstSigns$Row" "signs" "[I", Cond.methodLink RX4 46 yX5_size]
def wsX7_parts_r3 : List Cond := [Cond.instanceMethod yX5_size, Cond.selects RX5 yX5_size yX5_size, Cond.code yX5_size cX5_size 1 (some .int), Cond.methodLink RX4 30 yX5_fromFirst, Cond.instanceMethod yX5_fromFirst, Cond.selects RX5 yX5_fromFirst yX5_fromFirst, Cond.code yX5_fromFirst cX5_fromFirst 2 (some .int), Cond.methodLink RX5 25 yX5_fromLast, Cond.instanceMethod yX5_fromLast, Cond.selects RX5 yX5_fromLast yX5_fromLast, Cond.code yX5_fromLast cX5_fromLast 2 (some .int), Cond.methodLink RX4 50 yX4_step, Cond.instanceMethod yX4_step, Cond.selects RX4 yX4_step yX4_step, Cond.code yX4_step cX4_step 4 (some .boolean), Cond.methodLink RX4 34 yX6_ruleOf, Cond.instanceMethod yX6_ruleOf, Cond.selects RX6 yX6_ruleOf yX6_ruleOf, Cond.initialized RX6, Cond.code yX6_ruleOf cX6_ruleOf 3 (some .int), Cond.fieldLink RX6 9 "FirstSigns$Table" "rules" "[I", Cond.static yX7_isSign, Cond.code yX7_isSign cX7_isSign 1 (some .boolean), Cond.static yX7_isLetter]
def wsX7_parts_r4 : List Cond := [Cond.code yX7_isLetter cX7_isLetter 1 (some .boolean), Cond.methodLink RX4 40 yX5_dropFirst, Cond.instanceMethod yX5_dropFirst, Cond.selects RX5 yX5_dropFirst yX5_dropFirst, Cond.code yX5_dropFirst cX5_dropFirst 1 none, Cond.methodLink RX5 9 Lib.Math.max.name, Cond.static Lib.Math.max.name, Cond.initialized "java/lang/Math", Cond.code Lib.Math.max.name Lib.Math.max.code 2 (some .int), Cond.methodLink RX7 106 yX4_readsToEnd, Cond.instanceMethod yX4_readsToEnd, Cond.selects RX4 yX4_readsToEnd yX4_readsToEnd, Cond.code yX4_readsToEnd cX4_readsToEnd 1 (some .boolean), Cond.methodLink RX7 98 yX5_size]
def wsX7_parts : List Cond := .code yX7_parts cX7_parts 6 (some .long) :: ((wsX7_parts_r1 ++ (wsX7_parts_r2 ++ (wsX7_parts_r3 ++ wsX7_parts_r4))) ++ wsX70 ++ wsX40 ++ wsX50 ++ wsX60)
def wsX7_firstsOfRules : List Cond := .code yX7_firstsOfRules cX7_firstsOfRules 5 (some .int) :: ([.fieldLink RX7 35 "FirstSigns" "norms" "LFirstSigns$Norms;", .fieldLink RX7 12 "FirstSigns" "table" "LFirstSigns$Table;", .methodLink RX7 80 yX6_ruleOf, .instanceMethod yX6_ruleOf, .selects RX6 yX6_ruleOf yX6_ruleOf, .initialized RX6, .code yX6_ruleOf cX6_ruleOf 3 (some .int), .fieldLink RX6 9 "FirstSigns$Table" "rules" "[I", .static yX7_isSign, .initialized RX7, .code yX7_isSign cX7_isSign 1 (some .boolean), .static yX7_isLetter, .code yX7_isLetter cX7_isLetter 1 (some .boolean), .methodLink RX7 136 yX2_firstsWithin, .instanceMethod yX2_firstsWithin, .selects RX2 yX2_firstsWithin yX2_firstsWithin, .initialized RX2, .code yX2_firstsWithin cX2_firstsWithin 5 (some .int), .methodLink RX2 29 yX2_of, .instanceMethod yX2_of, .selects RX2 yX2_of yX2_of, .code yX2_of cX2_of 2 (some .int), .fieldLink RX2 9 "FirstSigns$Norms" "ofSign" "[I"] ++ wsX70 ++ wsX60 ++ wsX20)
def wsX7_firsts_r1 : List Cond := [Cond.fieldLink RX7 35 "FirstSigns" "norms" "LFirstSigns$Norms;", Cond.fieldLink RX7 12 "FirstSigns" "table" "LFirstSigns$Table;", Cond.methodLink RX7 88 yX7_isRowOfSigns, Cond.static yX7_isRowOfSigns, Cond.initialized RX7, Cond.code yX7_isRowOfSigns cX7_isRowOfSigns 1 (some .boolean), Cond.methodLink RX7 72 yX7_isRow, Cond.static yX7_isRow, Cond.code yX7_isRow cX7_isRow 9 (some .boolean), Cond.constantLong RX7 203 (10), Cond.methodLink RX7 110 yX2_find, Cond.instanceMethod yX2_find, Cond.selects RX2 yX2_find yX2_find, Cond.initialized RX2, Cond.code yX2_find cX2_find 4 none, Cond.fieldLink RX2 9 "FirstSigns$Norms" "ofSign" "[I", Cond.methodLink RX2 15 yJ7_fill_53178, Cond.static yJ7_fill_53178, Cond.initialized RJ7, Cond.code yJ7_fill_53178 cJ7_fill_53178 4 none, Cond.methodLink RX2 21 yX2_leastLetter, Cond.instanceMethod yX2_leastLetter, Cond.selects RX2 yX2_leastLetter yX2_leastLetter, Cond.code yX2_leastLetter cX2_leastLetter 7 (some .int)]
def wsX7_firsts_r2 : List Cond := [Cond.methodLink RX2 25 yX2_byLetter, Cond.instanceMethod yX2_byLetter, Cond.selects RX2 yX2_byLetter yX2_byLetter, Cond.code yX2_byLetter cX2_byLetter 6 (some .int), Cond.methodLink RX2 33 yX6_ruleOf, Cond.instanceMethod yX6_ruleOf, Cond.selects RX6 yX6_ruleOf yX6_ruleOf, Cond.initialized RX6, Cond.code yX6_ruleOf cX6_ruleOf 3 (some .int), Cond.fieldLink RX6 9 "FirstSigns$Table" "rules" "[I", Cond.static yX7_isSign, Cond.code yX7_isSign cX7_isSign 1 (some .boolean), Cond.static yX7_isLetter, Cond.code yX7_isLetter cX7_isLetter 1 (some .boolean), Cond.methodLink RX2 39 yX2_ofRow, Cond.instanceMethod yX2_ofRow, Cond.selects RX2 yX2_ofRow yX2_ofRow, Cond.code yX2_ofRow cX2_ofRow 5 (some .int), Cond.methodLink RX2 29 yX2_of, Cond.instanceMethod yX2_of, Cond.selects RX2 yX2_of yX2_of, Cond.code yX2_of cX2_of 2 (some .int), Cond.methodLink RX7 136 yX2_firstsWithin, Cond.instanceMethod yX2_firstsWithin]
def wsX7_firsts_r3 : List Cond := [Cond.selects RX2 yX2_firstsWithin yX2_firstsWithin, Cond.code yX2_firstsWithin cX2_firstsWithin 5 (some .int), Cond.methodLink RX7 139 yX7_firstsOfRules, Cond.instanceMethod yX7_firstsOfRules, Cond.selects RX7 yX7_firstsOfRules yX7_firstsOfRules, Cond.code yX7_firstsOfRules cX7_firstsOfRules 5 (some .int), Cond.methodLink RX7 80 yX6_ruleOf]
def wsX7_firsts : List Cond := .code yX7_firsts cX7_firsts 4 (some .int) :: ((wsX7_firsts_r1 ++ (wsX7_firsts_r2 ++ wsX7_firsts_r3)) ++ wsX70 ++ wsX20 ++ wsX60)
def wsX7_claim_r1 : List Cond := [Cond.fieldLink RX7 21 "FirstSigns" "past" "LFirstSigns$Past;", Cond.fieldLink RX7 12 "FirstSigns" "table" "LFirstSigns$Table;", Cond.methodLink RX7 65 yX7_isSign, Cond.static yX7_isSign, Cond.initialized RX7, Cond.code yX7_isSign cX7_isSign 1 (some .boolean), Cond.methodLink RX7 72 yX7_isRow, Cond.static yX7_isRow, Cond.code yX7_isRow cX7_isRow 9 (some .boolean), Cond.constantLong RX7 203 (10), Cond.methodLink RX7 76 yX3_keep, Cond.instanceMethod yX3_keep, Cond.selects RX3 yX3_keep yX3_keep, Cond.initialized RX3, Cond.code yX3_keep cX3_keep 2 none, Cond.fieldLink RX3 11 "FirstSigns$Past" "ahead" "[LFirstSigns$Table;", Cond.fieldLink RX3 22 "FirstSigns$Past" "next" "I", Cond.fieldLink RX3 18 "FirstSigns$Past" "kept" "I", Cond.methodLink RX3 29 Lib.Math.min.name, Cond.static Lib.Math.min.name, Cond.initialized "java/lang/Math", Cond.code Lib.Math.min.name Lib.Math.min.code 2 (some .int), Cond.methodLink RX3 25 yX6_copyFrom, Cond.instanceMethod yX6_copyFrom]
def wsX7_claim_r2 : List Cond := [Cond.selects RX6 yX6_copyFrom yX6_copyFrom, Cond.initialized RX6, Cond.code yX6_copyFrom cX6_copyFrom 2 none, Cond.fieldLink RX6 9 "FirstSigns$Table" "rules" "[I", Cond.methodLink RX6 35 arraycopyName, Cond.native arraycopyName, Cond.static arraycopyName, Cond.initialized "java/lang/System", Cond.fieldLink RX6 15 "FirstSigns$Table" "claims" "[I", Cond.methodLink RX7 142 yX6_claimOf, Cond.instanceMethod yX6_claimOf, Cond.selects RX6 yX6_claimOf yX6_claimOf, Cond.code yX6_claimOf cX6_claimOf 2 (some .int), Cond.methodLink RX7 145 yX6_setClaim, Cond.instanceMethod yX6_setClaim, Cond.selects RX6 yX6_setClaim yX6_setClaim, Cond.code yX6_setClaim cX6_setClaim 3 none]
def wsX7_claim : List Cond := .code yX7_claim cX7_claim 4 (some .int) :: ((wsX7_claim_r1 ++ wsX7_claim_r2) ++ wsX70 ++ wsX30 ++ wsX60)
def wsX7_ofClaim : List Cond := .code yX7_ofClaim cX7_ofClaim 2 (some .int) :: ([.fieldLink RX7 12 "FirstSigns" "table" "LFirstSigns$Table;", .methodLink RX7 65 yX7_isSign, .static yX7_isSign, .initialized RX7, .code yX7_isSign cX7_isSign 1 (some .boolean), .methodLink RX7 142 yX6_claimOf, .instanceMethod yX6_claimOf, .selects RX6 yX6_claimOf yX6_claimOf, .initialized RX6, .code yX6_claimOf cX6_claimOf 2 (some .int), .fieldLink RX6 15 "FirstSigns$Table" "claims" "[I"] ++ wsX70 ++ wsX60)
def wsX7_reduced_r1 : List Cond := [Cond.fieldLink RX7 49 "FirstSigns" "forms" "LFirstSigns$Forms;", Cond.fieldLink RX7 12 "FirstSigns" "table" "LFirstSigns$Table;", Cond.fieldLink RX7 58 "FirstSigns" "one" "LFirstSigns$Row;", Cond.methodLink RX7 88 yX7_isRowOfSigns, Cond.static yX7_isRowOfSigns, Cond.initialized RX7, Cond.code yX7_isRowOfSigns cX7_isRowOfSigns 1 (some .boolean), Cond.methodLink RX7 72 yX7_isRow, Cond.static yX7_isRow, Cond.code yX7_isRow cX7_isRow 9 (some .boolean), Cond.constantLong RX7 203 (10), Cond.methodLink RX7 149 yX1_find, Cond.instanceMethod yX1_find, Cond.selects RX1 yX1_find yX1_find, Cond.initialized RX1, Cond.code yX1_find cX1_find 5 none, Cond.fieldLink RX1 11 "FirstSigns$Forms" "ofSign" "[LFirstSigns$Row;", Cond.methodLink RX1 20 yX6_claimOf, Cond.instanceMethod yX6_claimOf, Cond.selects RX6 yX6_claimOf yX6_claimOf, Cond.initialized RX6, Cond.code yX6_claimOf cX6_claimOf 2 (some .int), Cond.fieldLink RX6 15 "FirstSigns$Table" "claims" "[I", Cond.static yX7_isSign]
def wsX7_reduced_r2 : List Cond := [Cond.code yX7_isSign cX7_isSign 1 (some .boolean), Cond.methodLink RX1 26 yX5_clear, Cond.instanceMethod yX5_clear, Cond.selects RX5 yX5_clear yX5_clear, Cond.initialized RX5, Cond.code yX5_clear cX5_clear 1 none, Cond.fieldLink RX5 21 "FirstSigns$Row" "length" "I", Cond.methodLink RX1 29 yX5_putFirst, Cond.instanceMethod yX5_putFirst, Cond.selects RX5 yX5_putFirst yX5_putFirst, Cond.code yX5_putFirst cX5_putFirst 2 none, Cond.fieldLink RX5 15 "FirstSigns$Row" "signs" "[I", Cond.methodLink RX1 32 yX1_putAhead, Cond.instanceMethod yX1_putAhead, Cond.selects RX1 yX1_putAhead yX1_putAhead, Cond.code yX1_putAhead cX1_putAhead 5 none, Cond.methodLink RX1 40 yX5_putAllAhead, Cond.instanceMethod yX5_putAllAhead, Cond.selects RX5 yX5_putAllAhead yX5_putAllAhead, Cond.code yX5_putAllAhead cX5_putAllAhead 2 none, Cond.methodLink RX5 35 arraycopyName, Cond.native arraycopyName, Cond.static arraycopyName, Cond.initialized "java/lang/System"]
def wsX7_reduced_r3 : List Cond := [Cond.methodLink RX7 150 yX5_clear, Cond.methodLink RX7 153 yX1_putAhead, Cond.methodLink RX7 98 yX5_size, Cond.instanceMethod yX5_size, Cond.selects RX5 yX5_size yX5_size, Cond.code yX5_size cX5_size 1 (some .int), Cond.methodLink RX7 102 yX5_fromFirst, Cond.instanceMethod yX5_fromFirst, Cond.selects RX5 yX5_fromFirst yX5_fromFirst, Cond.code yX5_fromFirst cX5_fromFirst 2 (some .int), Cond.methodLink RX5 25 yX5_fromLast, Cond.instanceMethod yX5_fromLast, Cond.selects RX5 yX5_fromLast yX5_fromLast, Cond.code yX5_fromLast cX5_fromLast 2 (some .int)]
def wsX7_reduced : List Cond := .code yX7_reduced cX7_reduced 3 (some .int) :: ((wsX7_reduced_r1 ++ (wsX7_reduced_r2 ++ wsX7_reduced_r3)) ++ wsX70 ++ wsX10 ++ wsX60 ++ wsX50)
def wsX7_reduceBoth_r1 : List Cond := [Cond.fieldLink RX7 49 "FirstSigns" "forms" "LFirstSigns$Forms;", Cond.fieldLink RX7 12 "FirstSigns" "table" "LFirstSigns$Table;", Cond.fieldLink RX7 58 "FirstSigns" "one" "LFirstSigns$Row;", Cond.fieldLink RX7 62 "FirstSigns" "two" "LFirstSigns$Row;", Cond.methodLink RX7 149 yX1_find, Cond.instanceMethod yX1_find, Cond.selects RX1 yX1_find yX1_find, Cond.initialized RX1, Cond.code yX1_find cX1_find 5 none, Cond.fieldLink RX1 11 "FirstSigns$Forms" "ofSign" "[LFirstSigns$Row;", Cond.methodLink RX1 20 yX6_claimOf, Cond.instanceMethod yX6_claimOf, Cond.selects RX6 yX6_claimOf yX6_claimOf, Cond.initialized RX6, Cond.code yX6_claimOf cX6_claimOf 2 (some .int), Cond.fieldLink RX6 15 "FirstSigns$Table" "claims" "[I", Cond.static yX7_isSign, Cond.initialized RX7, Cond.code yX7_isSign cX7_isSign 1 (some .boolean), Cond.methodLink RX1 26 yX5_clear, Cond.instanceMethod yX5_clear, Cond.selects RX5 yX5_clear yX5_clear, Cond.initialized RX5, Cond.code yX5_clear cX5_clear 1 none]
def wsX7_reduceBoth_r2 : List Cond := [Cond.fieldLink RX5 21 "FirstSigns$Row" "length" "I", Cond.methodLink RX1 29 yX5_putFirst, Cond.instanceMethod yX5_putFirst, Cond.selects RX5 yX5_putFirst yX5_putFirst, Cond.code yX5_putFirst cX5_putFirst 2 none, Cond.fieldLink RX5 15 "FirstSigns$Row" "signs" "[I", Cond.methodLink RX1 32 yX1_putAhead, Cond.instanceMethod yX1_putAhead, Cond.selects RX1 yX1_putAhead yX1_putAhead, Cond.code yX1_putAhead cX1_putAhead 5 none, Cond.methodLink RX1 40 yX5_putAllAhead, Cond.instanceMethod yX5_putAllAhead, Cond.selects RX5 yX5_putAllAhead yX5_putAllAhead, Cond.code yX5_putAllAhead cX5_putAllAhead 2 none, Cond.methodLink RX5 35 arraycopyName, Cond.native arraycopyName, Cond.static arraycopyName, Cond.initialized "java/lang/System", Cond.methodLink RX7 150 yX5_clear, Cond.methodLink RX7 153 yX1_putAhead]
def wsX7_reduceBoth : List Cond := .code yX7_reduceBoth cX7_reduceBoth 3 none :: ((wsX7_reduceBoth_r1 ++ wsX7_reduceBoth_r2) ++ wsX70 ++ wsX10 ++ wsX60 ++ wsX50)
def wsX7_alike_r1 : List Cond := [Cond.fieldLink RX7 58 "FirstSigns" "one" "LFirstSigns$Row;", Cond.fieldLink RX7 62 "FirstSigns" "two" "LFirstSigns$Row;", Cond.methodLink RX7 88 yX7_isRowOfSigns, Cond.static yX7_isRowOfSigns, Cond.initialized RX7, Cond.code yX7_isRowOfSigns cX7_isRowOfSigns 1 (some .boolean), Cond.methodLink RX7 72 yX7_isRow, Cond.static yX7_isRow, Cond.code yX7_isRow cX7_isRow 9 (some .boolean), Cond.constantLong RX7 203 (10), Cond.methodLink RX7 157 yX7_reduceBoth, Cond.instanceMethod yX7_reduceBoth, Cond.selects RX7 yX7_reduceBoth yX7_reduceBoth, Cond.code yX7_reduceBoth cX7_reduceBoth 3 none, Cond.fieldLink RX7 49 "FirstSigns" "forms" "LFirstSigns$Forms;", Cond.fieldLink RX7 12 "FirstSigns" "table" "LFirstSigns$Table;", Cond.methodLink RX7 149 yX1_find, Cond.instanceMethod yX1_find, Cond.selects RX1 yX1_find yX1_find, Cond.initialized RX1, Cond.code yX1_find cX1_find 5 none, Cond.fieldLink RX1 11 "FirstSigns$Forms" "ofSign" "[LFirstSigns$Row;", Cond.methodLink RX1 20 yX6_claimOf, Cond.instanceMethod yX6_claimOf]
def wsX7_alike_r2 : List Cond := [Cond.selects RX6 yX6_claimOf yX6_claimOf, Cond.initialized RX6, Cond.code yX6_claimOf cX6_claimOf 2 (some .int), Cond.fieldLink RX6 15 "FirstSigns$Table" "claims" "[I", Cond.static yX7_isSign, Cond.code yX7_isSign cX7_isSign 1 (some .boolean), Cond.methodLink RX1 26 yX5_clear, Cond.instanceMethod yX5_clear, Cond.selects RX5 yX5_clear yX5_clear, Cond.initialized RX5, Cond.code yX5_clear cX5_clear 1 none, Cond.fieldLink RX5 21 "FirstSigns$Row" "length" "I", Cond.methodLink RX1 29 yX5_putFirst, Cond.instanceMethod yX5_putFirst, Cond.selects RX5 yX5_putFirst yX5_putFirst, Cond.code yX5_putFirst cX5_putFirst 2 none, Cond.fieldLink RX5 15 "FirstSigns$Row" "signs" "[I", Cond.methodLink RX1 32 yX1_putAhead, Cond.instanceMethod yX1_putAhead, Cond.selects RX1 yX1_putAhead yX1_putAhead, Cond.code yX1_putAhead cX1_putAhead 5 none, Cond.methodLink RX1 40 yX5_putAllAhead, Cond.instanceMethod yX5_putAllAhead, Cond.selects RX5 yX5_putAllAhead yX5_putAllAhead]
def wsX7_alike_r3 : List Cond := [Cond.code yX5_putAllAhead cX5_putAllAhead 2 none, Cond.methodLink RX5 35 arraycopyName, Cond.native arraycopyName, Cond.static arraycopyName, Cond.initialized "java/lang/System", Cond.methodLink RX7 150 yX5_clear, Cond.methodLink RX7 153 yX1_putAhead, Cond.methodLink RX7 160 yX5_isSame, Cond.instanceMethod yX5_isSame, Cond.selects RX5 yX5_isSame yX5_isSame, Cond.code yX5_isSame cX5_isSame 2 (some .boolean), Cond.methodLink RX5 47 yX5_sameFromLast, Cond.instanceMethod yX5_sameFromLast, Cond.selects RX5 yX5_sameFromLast yX5_sameFromLast, Cond.code yX5_sameFromLast cX5_sameFromLast 4 (some .int), Cond.methodLink RX5 41 Lib.Math.min.name, Cond.static Lib.Math.min.name, Cond.initialized "java/lang/Math", Cond.code Lib.Math.min.name Lib.Math.min.code 2 (some .int), Cond.methodLink RX5 25 yX5_fromLast, Cond.instanceMethod yX5_fromLast, Cond.selects RX5 yX5_fromLast yX5_fromLast, Cond.code yX5_fromLast cX5_fromLast 2 (some .int)]
def wsX7_alike : List Cond := .code yX7_alike cX7_alike 3 (some .int) :: ((wsX7_alike_r1 ++ (wsX7_alike_r2 ++ wsX7_alike_r3)) ++ wsX70 ++ wsX10 ++ wsX60 ++ wsX50)
def wsX7_common_r1 : List Cond := [Cond.fieldLink RX7 58 "FirstSigns" "one" "LFirstSigns$Row;", Cond.fieldLink RX7 62 "FirstSigns" "two" "LFirstSigns$Row;", Cond.methodLink RX7 88 yX7_isRowOfSigns, Cond.static yX7_isRowOfSigns, Cond.initialized RX7, Cond.code yX7_isRowOfSigns cX7_isRowOfSigns 1 (some .boolean), Cond.methodLink RX7 72 yX7_isRow, Cond.static yX7_isRow, Cond.code yX7_isRow cX7_isRow 9 (some .boolean), Cond.constantLong RX7 203 (10), Cond.methodLink RX7 157 yX7_reduceBoth, Cond.instanceMethod yX7_reduceBoth, Cond.selects RX7 yX7_reduceBoth yX7_reduceBoth, Cond.code yX7_reduceBoth cX7_reduceBoth 3 none, Cond.fieldLink RX7 49 "FirstSigns" "forms" "LFirstSigns$Forms;", Cond.fieldLink RX7 12 "FirstSigns" "table" "LFirstSigns$Table;", Cond.methodLink RX7 149 yX1_find, Cond.instanceMethod yX1_find, Cond.selects RX1 yX1_find yX1_find, Cond.initialized RX1, Cond.code yX1_find cX1_find 5 none, Cond.fieldLink RX1 11 "FirstSigns$Forms" "ofSign" "[LFirstSigns$Row;", Cond.methodLink RX1 20 yX6_claimOf, Cond.instanceMethod yX6_claimOf]
def wsX7_common_r2 : List Cond := [Cond.selects RX6 yX6_claimOf yX6_claimOf, Cond.initialized RX6, Cond.code yX6_claimOf cX6_claimOf 2 (some .int), Cond.fieldLink RX6 15 "FirstSigns$Table" "claims" "[I", Cond.static yX7_isSign, Cond.code yX7_isSign cX7_isSign 1 (some .boolean), Cond.methodLink RX1 26 yX5_clear, Cond.instanceMethod yX5_clear, Cond.selects RX5 yX5_clear yX5_clear, Cond.initialized RX5, Cond.code yX5_clear cX5_clear 1 none, Cond.fieldLink RX5 21 "FirstSigns$Row" "length" "I", Cond.methodLink RX1 29 yX5_putFirst, Cond.instanceMethod yX5_putFirst, Cond.selects RX5 yX5_putFirst yX5_putFirst, Cond.code yX5_putFirst cX5_putFirst 2 none, Cond.fieldLink RX5 15 "FirstSigns$Row" "signs" "[I", Cond.methodLink RX1 32 yX1_putAhead, Cond.instanceMethod yX1_putAhead, Cond.selects RX1 yX1_putAhead yX1_putAhead, Cond.code yX1_putAhead cX1_putAhead 5 none, Cond.methodLink RX1 40 yX5_putAllAhead, Cond.instanceMethod yX5_putAllAhead, Cond.selects RX5 yX5_putAllAhead yX5_putAllAhead]
def wsX7_common_r3 : List Cond := [Cond.code yX5_putAllAhead cX5_putAllAhead 2 none, Cond.methodLink RX5 35 arraycopyName, Cond.native arraycopyName, Cond.static arraycopyName, Cond.initialized "java/lang/System", Cond.methodLink RX7 150 yX5_clear, Cond.methodLink RX7 153 yX1_putAhead, Cond.methodLink RX7 164 yX5_sameFromFirst, Cond.instanceMethod yX5_sameFromFirst, Cond.selects RX5 yX5_sameFromFirst yX5_sameFromFirst, Cond.code yX5_sameFromFirst cX5_sameFromFirst 4 (some .int), Cond.methodLink RX5 41 Lib.Math.min.name, Cond.static Lib.Math.min.name, Cond.initialized "java/lang/Math", Cond.code Lib.Math.min.name Lib.Math.min.code 2 (some .int), Cond.methodLink RX5 44 yX5_fromFirst, Cond.instanceMethod yX5_fromFirst, Cond.selects RX5 yX5_fromFirst yX5_fromFirst, Cond.code yX5_fromFirst cX5_fromFirst 2 (some .int), Cond.methodLink RX5 25 yX5_fromLast, Cond.instanceMethod yX5_fromLast, Cond.selects RX5 yX5_fromLast yX5_fromLast, Cond.code yX5_fromLast cX5_fromLast 2 (some .int), Cond.methodLink RX7 168 yX5_sameFromLast]
def wsX7_common_r4 : List Cond := [Cond.instanceMethod yX5_sameFromLast, Cond.selects RX5 yX5_sameFromLast yX5_sameFromLast, Cond.code yX5_sameFromLast cX5_sameFromLast 4 (some .int)]
def wsX7_common : List Cond := .code yX7_common cX7_common 4 (some .int) :: ((wsX7_common_r1 ++ (wsX7_common_r2 ++ (wsX7_common_r3 ++ wsX7_common_r4))) ++ wsX70 ++ wsX10 ++ wsX60 ++ wsX50)
def wsX7_firstUnit : List Cond := .code yX7_firstUnit cX7_firstUnit 1 (some .int) :: ([])
def wsX7_isBrokenBy_r1 : List Cond := [Cond.fieldLink RX7 12 "FirstSigns" "table" "LFirstSigns$Table;", Cond.fieldLink RX7 58 "FirstSigns" "one" "LFirstSigns$Row;", Cond.fieldLink RX7 49 "FirstSigns" "forms" "LFirstSigns$Forms;", Cond.fieldLink RX7 62 "FirstSigns" "two" "LFirstSigns$Row;", Cond.methodLink RX7 219 yX7_firstUnit, Cond.static yX7_firstUnit, Cond.initialized RX7, Cond.code yX7_firstUnit cX7_firstUnit 1 (some .int), Cond.methodLink RX7 80 yX6_ruleOf, Cond.instanceMethod yX6_ruleOf, Cond.selects RX6 yX6_ruleOf yX6_ruleOf, Cond.initialized RX6, Cond.code yX6_ruleOf cX6_ruleOf 3 (some .int), Cond.fieldLink RX6 9 "FirstSigns$Table" "rules" "[I", Cond.static yX7_isSign, Cond.code yX7_isSign cX7_isSign 1 (some .boolean), Cond.static yX7_isLetter, Cond.code yX7_isLetter cX7_isLetter 1 (some .boolean), Cond.methodLink RX7 150 yX5_clear, Cond.instanceMethod yX5_clear, Cond.selects RX5 yX5_clear yX5_clear, Cond.initialized RX5, Cond.code yX5_clear cX5_clear 1 none, Cond.fieldLink RX5 21 "FirstSigns$Row" "length" "I"]
def wsX7_isBrokenBy_r2 : List Cond := [Cond.methodLink RX7 153 yX1_putAhead, Cond.instanceMethod yX1_putAhead, Cond.selects RX1 yX1_putAhead yX1_putAhead, Cond.initialized RX1, Cond.code yX1_putAhead cX1_putAhead 5 none, Cond.fieldLink RX1 11 "FirstSigns$Forms" "ofSign" "[LFirstSigns$Row;", Cond.methodLink RX1 40 yX5_putAllAhead, Cond.instanceMethod yX5_putAllAhead, Cond.selects RX5 yX5_putAllAhead yX5_putAllAhead, Cond.code yX5_putAllAhead cX5_putAllAhead 2 none, Cond.fieldLink RX5 15 "FirstSigns$Row" "signs" "[I", Cond.methodLink RX5 35 arraycopyName, Cond.native arraycopyName, Cond.static arraycopyName, Cond.initialized "java/lang/System", Cond.methodLink RX7 160 yX5_isSame, Cond.instanceMethod yX5_isSame, Cond.selects RX5 yX5_isSame yX5_isSame, Cond.code yX5_isSame cX5_isSame 2 (some .boolean), Cond.methodLink RX5 47 yX5_sameFromLast, Cond.instanceMethod yX5_sameFromLast, Cond.selects RX5 yX5_sameFromLast yX5_sameFromLast, Cond.code yX5_sameFromLast cX5_sameFromLast 4 (some .int), Cond.methodLink RX5 41 Lib.Math.min.name]
def wsX7_isBrokenBy_r3 : List Cond := [Cond.static Lib.Math.min.name, Cond.initialized "java/lang/Math", Cond.code Lib.Math.min.name Lib.Math.min.code 2 (some .int), Cond.methodLink RX5 25 yX5_fromLast, Cond.instanceMethod yX5_fromLast, Cond.selects RX5 yX5_fromLast yX5_fromLast, Cond.code yX5_fromLast cX5_fromLast 2 (some .int)]
def wsX7_isBrokenBy : List Cond := .code yX7_isBrokenBy cX7_isBrokenBy 7 (some .boolean) :: ((wsX7_isBrokenBy_r1 ++ (wsX7_isBrokenBy_r2 ++ wsX7_isBrokenBy_r3)) ++ wsX70 ++ wsX60 ++ wsX50 ++ wsX10)
def wsX7_breakingLetter_r1 : List Cond := [Cond.fieldLink RX7 12 "FirstSigns" "table" "LFirstSigns$Table;", Cond.methodLink RX7 142 yX6_claimOf, Cond.instanceMethod yX6_claimOf, Cond.selects RX6 yX6_claimOf yX6_claimOf, Cond.initialized RX6, Cond.code yX6_claimOf cX6_claimOf 2 (some .int), Cond.fieldLink RX6 15 "FirstSigns$Table" "claims" "[I", Cond.static yX7_isSign, Cond.initialized RX7, Cond.code yX7_isSign cX7_isSign 1 (some .boolean), Cond.methodLink RX7 216 yX7_isBrokenBy, Cond.instanceMethod yX7_isBrokenBy, Cond.selects RX7 yX7_isBrokenBy yX7_isBrokenBy, Cond.code yX7_isBrokenBy cX7_isBrokenBy 7 (some .boolean), Cond.fieldLink RX7 58 "FirstSigns" "one" "LFirstSigns$Row;", Cond.fieldLink RX7 49 "FirstSigns" "forms" "LFirstSigns$Forms;", Cond.fieldLink RX7 62 "FirstSigns" "two" "LFirstSigns$Row;", Cond.methodLink RX7 219 yX7_firstUnit, Cond.static yX7_firstUnit, Cond.code yX7_firstUnit cX7_firstUnit 1 (some .int), Cond.methodLink RX7 80 yX6_ruleOf, Cond.instanceMethod yX6_ruleOf, Cond.selects RX6 yX6_ruleOf yX6_ruleOf, Cond.code yX6_ruleOf cX6_ruleOf 3 (some .int)]
def wsX7_breakingLetter_r2 : List Cond := [Cond.fieldLink RX6 9 "FirstSigns$Table" "rules" "[I", Cond.static yX7_isLetter, Cond.code yX7_isLetter cX7_isLetter 1 (some .boolean), Cond.methodLink RX7 150 yX5_clear, Cond.instanceMethod yX5_clear, Cond.selects RX5 yX5_clear yX5_clear, Cond.initialized RX5, Cond.code yX5_clear cX5_clear 1 none, Cond.fieldLink RX5 21 "FirstSigns$Row" "length" "I", Cond.methodLink RX7 153 yX1_putAhead, Cond.instanceMethod yX1_putAhead, Cond.selects RX1 yX1_putAhead yX1_putAhead, Cond.initialized RX1, Cond.code yX1_putAhead cX1_putAhead 5 none, Cond.fieldLink RX1 11 "FirstSigns$Forms" "ofSign" "[LFirstSigns$Row;", Cond.methodLink RX1 40 yX5_putAllAhead, Cond.instanceMethod yX5_putAllAhead, Cond.selects RX5 yX5_putAllAhead yX5_putAllAhead, Cond.code yX5_putAllAhead cX5_putAllAhead 2 none, Cond.fieldLink RX5 15 "FirstSigns$Row" "signs" "[I", Cond.methodLink RX5 35 arraycopyName, Cond.native arraycopyName, Cond.static arraycopyName, Cond.initialized "java/lang/System"]
def wsX7_breakingLetter_r3 : List Cond := [Cond.methodLink RX7 160 yX5_isSame, Cond.instanceMethod yX5_isSame, Cond.selects RX5 yX5_isSame yX5_isSame, Cond.code yX5_isSame cX5_isSame 2 (some .boolean), Cond.methodLink RX5 47 yX5_sameFromLast, Cond.instanceMethod yX5_sameFromLast, Cond.selects RX5 yX5_sameFromLast yX5_sameFromLast, Cond.code yX5_sameFromLast cX5_sameFromLast 4 (some .int), Cond.methodLink RX5 41 Lib.Math.min.name, Cond.static Lib.Math.min.name, Cond.initialized "java/lang/Math", Cond.code Lib.Math.min.name Lib.Math.min.code 2 (some .int), Cond.methodLink RX5 25 yX5_fromLast, Cond.instanceMethod yX5_fromLast, Cond.selects RX5 yX5_fromLast yX5_fromLast, Cond.code yX5_fromLast cX5_fromLast 2 (some .int)]
def wsX7_breakingLetter : List Cond := .code yX7_breakingLetter cX7_breakingLetter 4 (some .int) :: ((wsX7_breakingLetter_r1 ++ (wsX7_breakingLetter_r2 ++ wsX7_breakingLetter_r3)) ++ wsX70 ++ wsX60 ++ wsX50 ++ wsX10)
def wsX7_broken_r1 : List Cond := [Cond.fieldLink RX7 49 "FirstSigns" "forms" "LFirstSigns$Forms;", Cond.fieldLink RX7 12 "FirstSigns" "table" "LFirstSigns$Table;", Cond.methodLink RX7 149 yX1_find, Cond.instanceMethod yX1_find, Cond.selects RX1 yX1_find yX1_find, Cond.initialized RX1, Cond.code yX1_find cX1_find 5 none, Cond.fieldLink RX1 11 "FirstSigns$Forms" "ofSign" "[LFirstSigns$Row;", Cond.methodLink RX1 20 yX6_claimOf, Cond.instanceMethod yX6_claimOf, Cond.selects RX6 yX6_claimOf yX6_claimOf, Cond.initialized RX6, Cond.code yX6_claimOf cX6_claimOf 2 (some .int), Cond.fieldLink RX6 15 "FirstSigns$Table" "claims" "[I", Cond.static yX7_isSign, Cond.initialized RX7, Cond.code yX7_isSign cX7_isSign 1 (some .boolean), Cond.methodLink RX1 26 yX5_clear, Cond.instanceMethod yX5_clear, Cond.selects RX5 yX5_clear yX5_clear, Cond.initialized RX5, Cond.code yX5_clear cX5_clear 1 none, Cond.fieldLink RX5 21 "FirstSigns$Row" "length" "I", Cond.methodLink RX1 29 yX5_putFirst]
def wsX7_broken_r2 : List Cond := [Cond.instanceMethod yX5_putFirst, Cond.selects RX5 yX5_putFirst yX5_putFirst, Cond.code yX5_putFirst cX5_putFirst 2 none, Cond.fieldLink RX5 15 "FirstSigns$Row" "signs" "[I", Cond.methodLink RX1 32 yX1_putAhead, Cond.instanceMethod yX1_putAhead, Cond.selects RX1 yX1_putAhead yX1_putAhead, Cond.code yX1_putAhead cX1_putAhead 5 none, Cond.methodLink RX1 40 yX5_putAllAhead, Cond.instanceMethod yX5_putAllAhead, Cond.selects RX5 yX5_putAllAhead yX5_putAllAhead, Cond.code yX5_putAllAhead cX5_putAllAhead 2 none, Cond.methodLink RX5 35 arraycopyName, Cond.native arraycopyName, Cond.static arraycopyName, Cond.initialized "java/lang/System", Cond.methodLink RX7 171 yX7_breakingLetter, Cond.instanceMethod yX7_breakingLetter, Cond.selects RX7 yX7_breakingLetter yX7_breakingLetter, Cond.code yX7_breakingLetter cX7_breakingLetter 4 (some .int), Cond.methodLink RX7 142 yX6_claimOf, Cond.methodLink RX7 216 yX7_isBrokenBy, Cond.instanceMethod yX7_isBrokenBy, Cond.selects RX7 yX7_isBrokenBy yX7_isBrokenBy]
def wsX7_broken_r3 : List Cond := [Cond.code yX7_isBrokenBy cX7_isBrokenBy 7 (some .boolean), Cond.fieldLink RX7 58 "FirstSigns" "one" "LFirstSigns$Row;", Cond.fieldLink RX7 62 "FirstSigns" "two" "LFirstSigns$Row;", Cond.methodLink RX7 219 yX7_firstUnit, Cond.static yX7_firstUnit, Cond.code yX7_firstUnit cX7_firstUnit 1 (some .int), Cond.methodLink RX7 80 yX6_ruleOf, Cond.instanceMethod yX6_ruleOf, Cond.selects RX6 yX6_ruleOf yX6_ruleOf, Cond.code yX6_ruleOf cX6_ruleOf 3 (some .int), Cond.fieldLink RX6 9 "FirstSigns$Table" "rules" "[I", Cond.static yX7_isLetter, Cond.code yX7_isLetter cX7_isLetter 1 (some .boolean), Cond.methodLink RX7 150 yX5_clear, Cond.methodLink RX7 153 yX1_putAhead, Cond.methodLink RX7 160 yX5_isSame, Cond.instanceMethod yX5_isSame, Cond.selects RX5 yX5_isSame yX5_isSame, Cond.code yX5_isSame cX5_isSame 2 (some .boolean), Cond.methodLink RX5 47 yX5_sameFromLast, Cond.instanceMethod yX5_sameFromLast, Cond.selects RX5 yX5_sameFromLast yX5_sameFromLast, Cond.code yX5_sameFromLast cX5_sameFromLast 4 (some .int), Cond.methodLink RX5 41 Lib.Math.min.name]
def wsX7_broken_r4 : List Cond := [Cond.static Lib.Math.min.name, Cond.initialized "java/lang/Math", Cond.code Lib.Math.min.name Lib.Math.min.code 2 (some .int), Cond.methodLink RX5 25 yX5_fromLast, Cond.instanceMethod yX5_fromLast, Cond.selects RX5 yX5_fromLast yX5_fromLast, Cond.code yX5_fromLast cX5_fromLast 2 (some .int)]
def wsX7_broken : List Cond := .code yX7_broken cX7_broken 4 (some .int) :: ((wsX7_broken_r1 ++ (wsX7_broken_r2 ++ (wsX7_broken_r3 ++ wsX7_broken_r4))) ++ wsX70 ++ wsX10 ++ wsX60 ++ wsX50)
def wsX7_brokenClaims_r1 : List Cond := [Cond.fieldLink RX7 49 "FirstSigns" "forms" "LFirstSigns$Forms;", Cond.fieldLink RX7 12 "FirstSigns" "table" "LFirstSigns$Table;", Cond.methodLink RX7 149 yX1_find, Cond.instanceMethod yX1_find, Cond.selects RX1 yX1_find yX1_find, Cond.initialized RX1, Cond.code yX1_find cX1_find 5 none, Cond.fieldLink RX1 11 "FirstSigns$Forms" "ofSign" "[LFirstSigns$Row;", Cond.methodLink RX1 20 yX6_claimOf, Cond.instanceMethod yX6_claimOf, Cond.selects RX6 yX6_claimOf yX6_claimOf, Cond.initialized RX6, Cond.code yX6_claimOf cX6_claimOf 2 (some .int), Cond.fieldLink RX6 15 "FirstSigns$Table" "claims" "[I", Cond.static yX7_isSign, Cond.initialized RX7, Cond.code yX7_isSign cX7_isSign 1 (some .boolean), Cond.methodLink RX1 26 yX5_clear, Cond.instanceMethod yX5_clear, Cond.selects RX5 yX5_clear yX5_clear, Cond.initialized RX5, Cond.code yX5_clear cX5_clear 1 none, Cond.fieldLink RX5 21 "FirstSigns$Row" "length" "I", Cond.methodLink RX1 29 yX5_putFirst]
def wsX7_brokenClaims_r2 : List Cond := [Cond.instanceMethod yX5_putFirst, Cond.selects RX5 yX5_putFirst yX5_putFirst, Cond.code yX5_putFirst cX5_putFirst 2 none, Cond.fieldLink RX5 15 "FirstSigns$Row" "signs" "[I", Cond.methodLink RX1 32 yX1_putAhead, Cond.instanceMethod yX1_putAhead, Cond.selects RX1 yX1_putAhead yX1_putAhead, Cond.code yX1_putAhead cX1_putAhead 5 none, Cond.methodLink RX1 40 yX5_putAllAhead, Cond.instanceMethod yX5_putAllAhead, Cond.selects RX5 yX5_putAllAhead yX5_putAllAhead, Cond.code yX5_putAllAhead cX5_putAllAhead 2 none, Cond.methodLink RX5 35 arraycopyName, Cond.native arraycopyName, Cond.static arraycopyName, Cond.initialized "java/lang/System", Cond.methodLink RX7 171 yX7_breakingLetter, Cond.instanceMethod yX7_breakingLetter, Cond.selects RX7 yX7_breakingLetter yX7_breakingLetter, Cond.code yX7_breakingLetter cX7_breakingLetter 4 (some .int), Cond.methodLink RX7 142 yX6_claimOf, Cond.methodLink RX7 216 yX7_isBrokenBy, Cond.instanceMethod yX7_isBrokenBy, Cond.selects RX7 yX7_isBrokenBy yX7_isBrokenBy]
def wsX7_brokenClaims_r3 : List Cond := [Cond.code yX7_isBrokenBy cX7_isBrokenBy 7 (some .boolean), Cond.fieldLink RX7 58 "FirstSigns" "one" "LFirstSigns$Row;", Cond.fieldLink RX7 62 "FirstSigns" "two" "LFirstSigns$Row;", Cond.methodLink RX7 219 yX7_firstUnit, Cond.static yX7_firstUnit, Cond.code yX7_firstUnit cX7_firstUnit 1 (some .int), Cond.methodLink RX7 80 yX6_ruleOf, Cond.instanceMethod yX6_ruleOf, Cond.selects RX6 yX6_ruleOf yX6_ruleOf, Cond.code yX6_ruleOf cX6_ruleOf 3 (some .int), Cond.fieldLink RX6 9 "FirstSigns$Table" "rules" "[I", Cond.static yX7_isLetter, Cond.code yX7_isLetter cX7_isLetter 1 (some .boolean), Cond.methodLink RX7 150 yX5_clear, Cond.methodLink RX7 153 yX1_putAhead, Cond.methodLink RX7 160 yX5_isSame, Cond.instanceMethod yX5_isSame, Cond.selects RX5 yX5_isSame yX5_isSame, Cond.code yX5_isSame cX5_isSame 2 (some .boolean), Cond.methodLink RX5 47 yX5_sameFromLast, Cond.instanceMethod yX5_sameFromLast, Cond.selects RX5 yX5_sameFromLast yX5_sameFromLast, Cond.code yX5_sameFromLast cX5_sameFromLast 4 (some .int), Cond.methodLink RX5 41 Lib.Math.min.name]
def wsX7_brokenClaims_r4 : List Cond := [Cond.static Lib.Math.min.name, Cond.initialized "java/lang/Math", Cond.code Lib.Math.min.name Lib.Math.min.code 2 (some .int), Cond.methodLink RX5 25 yX5_fromLast, Cond.instanceMethod yX5_fromLast, Cond.selects RX5 yX5_fromLast yX5_fromLast, Cond.code yX5_fromLast cX5_fromLast 2 (some .int)]
def wsX7_brokenClaims : List Cond := .code yX7_brokenClaims cX7_brokenClaims 3 (some .int) :: ((wsX7_brokenClaims_r1 ++ (wsX7_brokenClaims_r2 ++ (wsX7_brokenClaims_r3 ++ wsX7_brokenClaims_r4))) ++ wsX70 ++ wsX10 ++ wsX60 ++ wsX50)
def wsX7_removeClaims : List Cond := .code yX7_removeClaims cX7_removeClaims 3 none :: ([.fieldLink RX7 12 "FirstSigns" "table" "LFirstSigns$Table;", .methodLink RX7 145 yX6_setClaim, .instanceMethod yX6_setClaim, .selects RX6 yX6_setClaim yX6_setClaim, .initialized RX6, .code yX6_setClaim cX6_setClaim 3 none, .fieldLink RX6 15 "FirstSigns$Table" "claims" "[I", .static yX7_isSign, .initialized RX7, .code yX7_isSign cX7_isSign 1 (some .boolean)] ++ wsX70 ++ wsX60)
def wsJ6_bitCount_0f7a4 : List Cond := .code yJ6_bitCount_0f7a4 cJ6_bitCount_0f7a4 1 (some .int) :: ([.constant RJ6 265 (1431655765), .constant RJ6 266 (858993459), .constant RJ6 267 (252645135)])
def wsX7_settle_r1 : List Cond := [Cond.fieldLink RX7 21 "FirstSigns" "past" "LFirstSigns$Past;", Cond.fieldLink RX7 12 "FirstSigns" "table" "LFirstSigns$Table;", Cond.methodLink RX7 76 yX3_keep, Cond.instanceMethod yX3_keep, Cond.selects RX3 yX3_keep yX3_keep, Cond.initialized RX3, Cond.code yX3_keep cX3_keep 2 none, Cond.fieldLink RX3 11 "FirstSigns$Past" "ahead" "[LFirstSigns$Table;", Cond.fieldLink RX3 22 "FirstSigns$Past" "next" "I", Cond.fieldLink RX3 18 "FirstSigns$Past" "kept" "I", Cond.methodLink RX3 29 Lib.Math.min.name, Cond.static Lib.Math.min.name, Cond.initialized "java/lang/Math", Cond.code Lib.Math.min.name Lib.Math.min.code 2 (some .int), Cond.methodLink RX3 25 yX6_copyFrom, Cond.instanceMethod yX6_copyFrom, Cond.selects RX6 yX6_copyFrom yX6_copyFrom, Cond.initialized RX6, Cond.code yX6_copyFrom cX6_copyFrom 2 none, Cond.fieldLink RX6 9 "FirstSigns$Table" "rules" "[I", Cond.methodLink RX6 35 arraycopyName, Cond.native arraycopyName, Cond.static arraycopyName, Cond.initialized "java/lang/System"]
def wsX7_settle_r2 : List Cond := [Cond.fieldLink RX6 15 "FirstSigns$Table" "claims" "[I", Cond.methodLink RX7 174 yX7_brokenClaims, Cond.instanceMethod yX7_brokenClaims, Cond.selects RX7 yX7_brokenClaims yX7_brokenClaims, Cond.initialized RX7, Cond.code yX7_brokenClaims cX7_brokenClaims 3 (some .int), Cond.fieldLink RX7 49 "FirstSigns" "forms" "LFirstSigns$Forms;", Cond.methodLink RX7 149 yX1_find, Cond.instanceMethod yX1_find, Cond.selects RX1 yX1_find yX1_find, Cond.initialized RX1, Cond.code yX1_find cX1_find 5 none, Cond.fieldLink RX1 11 "FirstSigns$Forms" "ofSign" "[LFirstSigns$Row;", Cond.methodLink RX1 20 yX6_claimOf, Cond.instanceMethod yX6_claimOf, Cond.selects RX6 yX6_claimOf yX6_claimOf, Cond.code yX6_claimOf cX6_claimOf 2 (some .int), Cond.static yX7_isSign, Cond.code yX7_isSign cX7_isSign 1 (some .boolean), Cond.methodLink RX1 26 yX5_clear, Cond.instanceMethod yX5_clear, Cond.selects RX5 yX5_clear yX5_clear, Cond.initialized RX5, Cond.code yX5_clear cX5_clear 1 none]
def wsX7_settle_r3 : List Cond := [Cond.fieldLink RX5 21 "FirstSigns$Row" "length" "I", Cond.methodLink RX1 29 yX5_putFirst, Cond.instanceMethod yX5_putFirst, Cond.selects RX5 yX5_putFirst yX5_putFirst, Cond.code yX5_putFirst cX5_putFirst 2 none, Cond.fieldLink RX5 15 "FirstSigns$Row" "signs" "[I", Cond.methodLink RX1 32 yX1_putAhead, Cond.instanceMethod yX1_putAhead, Cond.selects RX1 yX1_putAhead yX1_putAhead, Cond.code yX1_putAhead cX1_putAhead 5 none, Cond.methodLink RX1 40 yX5_putAllAhead, Cond.instanceMethod yX5_putAllAhead, Cond.selects RX5 yX5_putAllAhead yX5_putAllAhead, Cond.code yX5_putAllAhead cX5_putAllAhead 2 none, Cond.methodLink RX5 35 arraycopyName, Cond.methodLink RX7 171 yX7_breakingLetter, Cond.instanceMethod yX7_breakingLetter, Cond.selects RX7 yX7_breakingLetter yX7_breakingLetter, Cond.code yX7_breakingLetter cX7_breakingLetter 4 (some .int), Cond.methodLink RX7 142 yX6_claimOf, Cond.methodLink RX7 216 yX7_isBrokenBy, Cond.instanceMethod yX7_isBrokenBy, Cond.selects RX7 yX7_isBrokenBy yX7_isBrokenBy, Cond.code yX7_isBrokenBy cX7_isBrokenBy 7 (some .boolean)]
def wsX7_settle_r4 : List Cond := [Cond.fieldLink RX7 58 "FirstSigns" "one" "LFirstSigns$Row;", Cond.fieldLink RX7 62 "FirstSigns" "two" "LFirstSigns$Row;", Cond.methodLink RX7 219 yX7_firstUnit, Cond.static yX7_firstUnit, Cond.code yX7_firstUnit cX7_firstUnit 1 (some .int), Cond.methodLink RX7 80 yX6_ruleOf, Cond.instanceMethod yX6_ruleOf, Cond.selects RX6 yX6_ruleOf yX6_ruleOf, Cond.code yX6_ruleOf cX6_ruleOf 3 (some .int), Cond.static yX7_isLetter, Cond.code yX7_isLetter cX7_isLetter 1 (some .boolean), Cond.methodLink RX7 150 yX5_clear, Cond.methodLink RX7 153 yX1_putAhead, Cond.methodLink RX7 160 yX5_isSame, Cond.instanceMethod yX5_isSame, Cond.selects RX5 yX5_isSame yX5_isSame, Cond.code yX5_isSame cX5_isSame 2 (some .boolean), Cond.methodLink RX5 47 yX5_sameFromLast, Cond.instanceMethod yX5_sameFromLast, Cond.selects RX5 yX5_sameFromLast yX5_sameFromLast, Cond.code yX5_sameFromLast cX5_sameFromLast 4 (some .int), Cond.methodLink RX5 41 Lib.Math.min.name, Cond.methodLink RX5 25 yX5_fromLast, Cond.instanceMethod yX5_fromLast]
def wsX7_settle_r5 : List Cond := [Cond.selects RX5 yX5_fromLast yX5_fromLast, Cond.code yX5_fromLast cX5_fromLast 2 (some .int), Cond.methodLink RX7 177 yX7_removeClaims, Cond.instanceMethod yX7_removeClaims, Cond.selects RX7 yX7_removeClaims yX7_removeClaims, Cond.code yX7_removeClaims cX7_removeClaims 3 none, Cond.methodLink RX7 145 yX6_setClaim, Cond.instanceMethod yX6_setClaim, Cond.selects RX6 yX6_setClaim yX6_setClaim, Cond.code yX6_setClaim cX6_setClaim 3 none, Cond.methodLink RX7 180 yJ6_bitCount_0f7a4, Cond.static yJ6_bitCount_0f7a4, Cond.initialized RJ6, Cond.code yJ6_bitCount_0f7a4 cJ6_bitCount_0f7a4 1 (some .int), Cond.constant RJ6 265 (1431655765), Cond.constant RJ6 266 (858993459), Cond.constant RJ6 267 (252645135)]
def wsX7_settle : List Cond := .code yX7_settle cX7_settle 4 (some .int) :: ((wsX7_settle_r1 ++ (wsX7_settle_r2 ++ (wsX7_settle_r3 ++ (wsX7_settle_r4 ++ wsX7_settle_r5)))) ++ wsX70 ++ wsX30 ++ wsX60 ++ wsX10 ++ wsX50)
def wsX7_mightFrom_r1 : List Cond := [Cond.fieldLink RX7 12 "FirstSigns" "table" "LFirstSigns$Table;", Cond.fieldLink RX7 49 "FirstSigns" "forms" "LFirstSigns$Forms;", Cond.methodLink RX7 129 yX7_rowInOrder, Cond.static yX7_rowInOrder, Cond.initialized RX7, Cond.code yX7_rowInOrder cX7_rowInOrder 6 (some .int), Cond.methodLink RX7 145 yX6_setClaim, Cond.instanceMethod yX6_setClaim, Cond.selects RX6 yX6_setClaim yX6_setClaim, Cond.initialized RX6, Cond.code yX6_setClaim cX6_setClaim 3 none, Cond.fieldLink RX6 15 "FirstSigns$Table" "claims" "[I", Cond.static yX7_isSign, Cond.code yX7_isSign cX7_isSign 1 (some .boolean), Cond.methodLink RX7 149 yX1_find, Cond.instanceMethod yX1_find, Cond.selects RX1 yX1_find yX1_find, Cond.initialized RX1, Cond.code yX1_find cX1_find 5 none, Cond.fieldLink RX1 11 "FirstSigns$Forms" "ofSign" "[LFirstSigns$Row;", Cond.methodLink RX1 20 yX6_claimOf, Cond.instanceMethod yX6_claimOf, Cond.selects RX6 yX6_claimOf yX6_claimOf, Cond.code yX6_claimOf cX6_claimOf 2 (some .int)]
def wsX7_mightFrom_r2 : List Cond := [Cond.methodLink RX1 26 yX5_clear, Cond.instanceMethod yX5_clear, Cond.selects RX5 yX5_clear yX5_clear, Cond.initialized RX5, Cond.code yX5_clear cX5_clear 1 none, Cond.fieldLink RX5 21 "FirstSigns$Row" "length" "I", Cond.methodLink RX1 29 yX5_putFirst, Cond.instanceMethod yX5_putFirst, Cond.selects RX5 yX5_putFirst yX5_putFirst, Cond.code yX5_putFirst cX5_putFirst 2 none, Cond.fieldLink RX5 15 "FirstSigns$Row" "signs" "[I", Cond.methodLink RX1 32 yX1_putAhead, Cond.instanceMethod yX1_putAhead, Cond.selects RX1 yX1_putAhead yX1_putAhead, Cond.code yX1_putAhead cX1_putAhead 5 none, Cond.methodLink RX1 40 yX5_putAllAhead, Cond.instanceMethod yX5_putAllAhead, Cond.selects RX5 yX5_putAllAhead yX5_putAllAhead, Cond.code yX5_putAllAhead cX5_putAllAhead 2 none, Cond.methodLink RX5 35 arraycopyName, Cond.native arraycopyName, Cond.static arraycopyName, Cond.initialized "java/lang/System", Cond.methodLink RX7 171 yX7_breakingLetter]
def wsX7_mightFrom_r3 : List Cond := [Cond.instanceMethod yX7_breakingLetter, Cond.selects RX7 yX7_breakingLetter yX7_breakingLetter, Cond.code yX7_breakingLetter cX7_breakingLetter 4 (some .int), Cond.methodLink RX7 142 yX6_claimOf, Cond.methodLink RX7 216 yX7_isBrokenBy, Cond.instanceMethod yX7_isBrokenBy, Cond.selects RX7 yX7_isBrokenBy yX7_isBrokenBy, Cond.code yX7_isBrokenBy cX7_isBrokenBy 7 (some .boolean), Cond.fieldLink RX7 58 "FirstSigns" "one" "LFirstSigns$Row;", Cond.fieldLink RX7 62 "FirstSigns" "two" "LFirstSigns$Row;", Cond.methodLink RX7 219 yX7_firstUnit, Cond.static yX7_firstUnit, Cond.code yX7_firstUnit cX7_firstUnit 1 (some .int), Cond.methodLink RX7 80 yX6_ruleOf, Cond.instanceMethod yX6_ruleOf, Cond.selects RX6 yX6_ruleOf yX6_ruleOf, Cond.code yX6_ruleOf cX6_ruleOf 3 (some .int), Cond.fieldLink RX6 9 "FirstSigns$Table" "rules" "[I", Cond.static yX7_isLetter, Cond.code yX7_isLetter cX7_isLetter 1 (some .boolean), Cond.methodLink RX7 150 yX5_clear, Cond.methodLink RX7 153 yX1_putAhead, Cond.methodLink RX7 160 yX5_isSame, Cond.instanceMethod yX5_isSame]
def wsX7_mightFrom_r4 : List Cond := [Cond.selects RX5 yX5_isSame yX5_isSame, Cond.code yX5_isSame cX5_isSame 2 (some .boolean), Cond.methodLink RX5 47 yX5_sameFromLast, Cond.instanceMethod yX5_sameFromLast, Cond.selects RX5 yX5_sameFromLast yX5_sameFromLast, Cond.code yX5_sameFromLast cX5_sameFromLast 4 (some .int), Cond.methodLink RX5 41 Lib.Math.min.name, Cond.static Lib.Math.min.name, Cond.initialized "java/lang/Math", Cond.code Lib.Math.min.name Lib.Math.min.code 2 (some .int), Cond.methodLink RX5 25 yX5_fromLast, Cond.instanceMethod yX5_fromLast, Cond.selects RX5 yX5_fromLast yX5_fromLast, Cond.code yX5_fromLast cX5_fromLast 2 (some .int)]
def wsX7_mightFrom : List Cond := .code yX7_mightFrom cX7_mightFrom 7 (some .int) :: ((wsX7_mightFrom_r1 ++ (wsX7_mightFrom_r2 ++ (wsX7_mightFrom_r3 ++ wsX7_mightFrom_r4))) ++ wsX70 ++ wsX60 ++ wsX10 ++ wsX50)
def wsX7_might_r1 : List Cond := [Cond.fieldLink RX7 12 "FirstSigns" "table" "LFirstSigns$Table;", Cond.methodLink RX7 65 yX7_isSign, Cond.static yX7_isSign, Cond.initialized RX7, Cond.code yX7_isSign cX7_isSign 1 (some .boolean), Cond.methodLink RX7 142 yX6_claimOf, Cond.instanceMethod yX6_claimOf, Cond.selects RX6 yX6_claimOf yX6_claimOf, Cond.initialized RX6, Cond.code yX6_claimOf cX6_claimOf 2 (some .int), Cond.fieldLink RX6 15 "FirstSigns$Table" "claims" "[I", Cond.methodLink RX7 185 yX7_mightFrom, Cond.instanceMethod yX7_mightFrom, Cond.selects RX7 yX7_mightFrom yX7_mightFrom, Cond.code yX7_mightFrom cX7_mightFrom 7 (some .int), Cond.fieldLink RX7 49 "FirstSigns" "forms" "LFirstSigns$Forms;", Cond.methodLink RX7 129 yX7_rowInOrder, Cond.static yX7_rowInOrder, Cond.code yX7_rowInOrder cX7_rowInOrder 6 (some .int), Cond.methodLink RX7 145 yX6_setClaim, Cond.instanceMethod yX6_setClaim, Cond.selects RX6 yX6_setClaim yX6_setClaim, Cond.code yX6_setClaim cX6_setClaim 3 none, Cond.methodLink RX7 149 yX1_find]
def wsX7_might_r2 : List Cond := [Cond.instanceMethod yX1_find, Cond.selects RX1 yX1_find yX1_find, Cond.initialized RX1, Cond.code yX1_find cX1_find 5 none, Cond.fieldLink RX1 11 "FirstSigns$Forms" "ofSign" "[LFirstSigns$Row;", Cond.methodLink RX1 20 yX6_claimOf, Cond.methodLink RX1 26 yX5_clear, Cond.instanceMethod yX5_clear, Cond.selects RX5 yX5_clear yX5_clear, Cond.initialized RX5, Cond.code yX5_clear cX5_clear 1 none, Cond.fieldLink RX5 21 "FirstSigns$Row" "length" "I", Cond.methodLink RX1 29 yX5_putFirst, Cond.instanceMethod yX5_putFirst, Cond.selects RX5 yX5_putFirst yX5_putFirst, Cond.code yX5_putFirst cX5_putFirst 2 none, Cond.fieldLink RX5 15 "FirstSigns$Row" "signs" "[I", Cond.methodLink RX1 32 yX1_putAhead, Cond.instanceMethod yX1_putAhead, Cond.selects RX1 yX1_putAhead yX1_putAhead, Cond.code yX1_putAhead cX1_putAhead 5 none, Cond.methodLink RX1 40 yX5_putAllAhead, Cond.instanceMethod yX5_putAllAhead, Cond.selects RX5 yX5_putAllAhead yX5_putAllAhead]
def wsX7_might_r3 : List Cond := [Cond.code yX5_putAllAhead cX5_putAllAhead 2 none, Cond.methodLink RX5 35 arraycopyName, Cond.native arraycopyName, Cond.static arraycopyName, Cond.initialized "java/lang/System", Cond.methodLink RX7 171 yX7_breakingLetter, Cond.instanceMethod yX7_breakingLetter, Cond.selects RX7 yX7_breakingLetter yX7_breakingLetter, Cond.code yX7_breakingLetter cX7_breakingLetter 4 (some .int), Cond.methodLink RX7 216 yX7_isBrokenBy, Cond.instanceMethod yX7_isBrokenBy, Cond.selects RX7 yX7_isBrokenBy yX7_isBrokenBy, Cond.code yX7_isBrokenBy cX7_isBrokenBy 7 (some .boolean), Cond.fieldLink RX7 58 "FirstSigns" "one" "LFirstSigns$Row;", Cond.fieldLink RX7 62 "FirstSigns" "two" "LFirstSigns$Row;", Cond.methodLink RX7 219 yX7_firstUnit, Cond.static yX7_firstUnit, Cond.code yX7_firstUnit cX7_firstUnit 1 (some .int), Cond.methodLink RX7 80 yX6_ruleOf, Cond.instanceMethod yX6_ruleOf, Cond.selects RX6 yX6_ruleOf yX6_ruleOf, Cond.code yX6_ruleOf cX6_ruleOf 3 (some .int), Cond.fieldLink RX6 9 "FirstSigns$Table" "rules" "[I", Cond.static yX7_isLetter]
def wsX7_might_r4 : List Cond := [Cond.code yX7_isLetter cX7_isLetter 1 (some .boolean), Cond.methodLink RX7 150 yX5_clear, Cond.methodLink RX7 153 yX1_putAhead, Cond.methodLink RX7 160 yX5_isSame, Cond.instanceMethod yX5_isSame, Cond.selects RX5 yX5_isSame yX5_isSame, Cond.code yX5_isSame cX5_isSame 2 (some .boolean), Cond.methodLink RX5 47 yX5_sameFromLast, Cond.instanceMethod yX5_sameFromLast, Cond.selects RX5 yX5_sameFromLast yX5_sameFromLast, Cond.code yX5_sameFromLast cX5_sameFromLast 4 (some .int), Cond.methodLink RX5 41 Lib.Math.min.name, Cond.static Lib.Math.min.name, Cond.initialized "java/lang/Math", Cond.code Lib.Math.min.name Lib.Math.min.code 2 (some .int), Cond.methodLink RX5 25 yX5_fromLast, Cond.instanceMethod yX5_fromLast, Cond.selects RX5 yX5_fromLast yX5_fromLast, Cond.code yX5_fromLast cX5_fromLast 2 (some .int)]
def wsX7_might : List Cond := .code yX7_might cX7_might 5 (some .int) :: ((wsX7_might_r1 ++ (wsX7_might_r2 ++ (wsX7_might_r3 ++ wsX7_might_r4))) ++ wsX70 ++ wsX60 ++ wsX10 ++ wsX50)
def wsX7_undo_r1 : List Cond := [Cond.fieldLink RX7 21 "FirstSigns" "past" "LFirstSigns$Past;", Cond.fieldLink RX7 12 "FirstSigns" "table" "LFirstSigns$Table;", Cond.methodLink RX7 188 yX3_kept, Cond.instanceMethod yX3_kept, Cond.selects RX3 yX3_kept yX3_kept, Cond.initialized RX3, Cond.code yX3_kept cX3_kept 1 (some .int), Cond.fieldLink RX3 18 "FirstSigns$Past" "kept" "I", Cond.methodLink RX7 191 yX3_bringBack, Cond.instanceMethod yX3_bringBack, Cond.selects RX3 yX3_bringBack yX3_bringBack, Cond.code yX3_bringBack cX3_bringBack 3 none, Cond.fieldLink RX3 22 "FirstSigns$Past" "next" "I", Cond.fieldLink RX3 11 "FirstSigns$Past" "ahead" "[LFirstSigns$Table;", Cond.methodLink RX3 25 yX6_copyFrom, Cond.instanceMethod yX6_copyFrom, Cond.selects RX6 yX6_copyFrom yX6_copyFrom, Cond.initialized RX6, Cond.code yX6_copyFrom cX6_copyFrom 2 none, Cond.fieldLink RX6 9 "FirstSigns$Table" "rules" "[I", Cond.methodLink RX6 35 arraycopyName, Cond.native arraycopyName, Cond.static arraycopyName, Cond.initialized "java/lang/System"]
def wsX7_undo_r2 : List Cond := [Cond.fieldLink RX6 15 "FirstSigns$Table" "claims" "[I"]
def wsX7_undo : List Cond := .code yX7_undo cX7_undo 2 (some .int) :: ((wsX7_undo_r1 ++ wsX7_undo_r2) ++ wsX70 ++ wsX30 ++ wsX60)
def wsX7_many_r1 : List Cond := [Cond.fieldLink RX7 12 "FirstSigns" "table" "LFirstSigns$Table;", Cond.fieldLink RX7 35 "FirstSigns" "norms" "LFirstSigns$Norms;", Cond.fieldLink RX7 21 "FirstSigns" "past" "LFirstSigns$Past;", Cond.methodLink RX7 194 yX6_countRules, Cond.instanceMethod yX6_countRules, Cond.selects RX6 yX6_countRules yX6_countRules, Cond.initialized RX6, Cond.code yX6_countRules cX6_countRules 1 (some .int), Cond.fieldLink RX6 9 "FirstSigns$Table" "rules" "[I", Cond.methodLink RX6 31 yX6_countPresent, Cond.static yX6_countPresent, Cond.code yX6_countPresent cX6_countPresent 6 (some .int), Cond.methodLink RX7 197 yX6_countClaims, Cond.instanceMethod yX6_countClaims, Cond.selects RX6 yX6_countClaims yX6_countClaims, Cond.code yX6_countClaims cX6_countClaims 1 (some .int), Cond.fieldLink RX6 15 "FirstSigns$Table" "claims" "[I", Cond.methodLink RX7 110 yX2_find, Cond.instanceMethod yX2_find, Cond.selects RX2 yX2_find yX2_find, Cond.initialized RX2, Cond.code yX2_find cX2_find 4 none, Cond.fieldLink RX2 9 "FirstSigns$Norms" "ofSign" "[I", Cond.methodLink RX2 15 yJ7_fill_53178]
def wsX7_many_r2 : List Cond := [Cond.static yJ7_fill_53178, Cond.initialized RJ7, Cond.code yJ7_fill_53178 cJ7_fill_53178 4 none, Cond.methodLink RX2 21 yX2_leastLetter, Cond.instanceMethod yX2_leastLetter, Cond.selects RX2 yX2_leastLetter yX2_leastLetter, Cond.code yX2_leastLetter cX2_leastLetter 7 (some .int), Cond.methodLink RX2 25 yX2_byLetter, Cond.instanceMethod yX2_byLetter, Cond.selects RX2 yX2_byLetter yX2_byLetter, Cond.code yX2_byLetter cX2_byLetter 6 (some .int), Cond.methodLink RX2 33 yX6_ruleOf, Cond.instanceMethod yX6_ruleOf, Cond.selects RX6 yX6_ruleOf yX6_ruleOf, Cond.code yX6_ruleOf cX6_ruleOf 3 (some .int), Cond.static yX7_isSign, Cond.initialized RX7, Cond.code yX7_isSign cX7_isSign 1 (some .boolean), Cond.static yX7_isLetter, Cond.code yX7_isLetter cX7_isLetter 1 (some .boolean), Cond.methodLink RX2 39 yX2_ofRow, Cond.instanceMethod yX2_ofRow, Cond.selects RX2 yX2_ofRow yX2_ofRow, Cond.code yX2_ofRow cX2_ofRow 5 (some .int)]
def wsX7_many_r3 : List Cond := [Cond.methodLink RX2 29 yX2_of, Cond.instanceMethod yX2_of, Cond.selects RX2 yX2_of yX2_of, Cond.code yX2_of cX2_of 2 (some .int), Cond.methodLink RX7 200 yX2_countFound, Cond.instanceMethod yX2_countFound, Cond.selects RX2 yX2_countFound yX2_countFound, Cond.code yX2_countFound cX2_countFound 6 (some .int), Cond.methodLink RX7 188 yX3_kept, Cond.instanceMethod yX3_kept, Cond.selects RX3 yX3_kept yX3_kept, Cond.initialized RX3, Cond.code yX3_kept cX3_kept 1 (some .int), Cond.fieldLink RX3 18 "FirstSigns$Past" "kept" "I", Cond.methodLink RX7 174 yX7_brokenClaims, Cond.instanceMethod yX7_brokenClaims, Cond.selects RX7 yX7_brokenClaims yX7_brokenClaims, Cond.code yX7_brokenClaims cX7_brokenClaims 3 (some .int), Cond.fieldLink RX7 49 "FirstSigns" "forms" "LFirstSigns$Forms;", Cond.methodLink RX7 149 yX1_find, Cond.instanceMethod yX1_find, Cond.selects RX1 yX1_find yX1_find, Cond.initialized RX1, Cond.code yX1_find cX1_find 5 none]
def wsX7_many_r4 : List Cond := [Cond.fieldLink RX1 11 "FirstSigns$Forms" "ofSign" "[LFirstSigns$Row;", Cond.methodLink RX1 20 yX6_claimOf, Cond.instanceMethod yX6_claimOf, Cond.selects RX6 yX6_claimOf yX6_claimOf, Cond.code yX6_claimOf cX6_claimOf 2 (some .int), Cond.methodLink RX1 26 yX5_clear, Cond.instanceMethod yX5_clear, Cond.selects RX5 yX5_clear yX5_clear, Cond.initialized RX5, Cond.code yX5_clear cX5_clear 1 none, Cond.fieldLink RX5 21 "FirstSigns$Row" "length" "I", Cond.methodLink RX1 29 yX5_putFirst, Cond.instanceMethod yX5_putFirst, Cond.selects RX5 yX5_putFirst yX5_putFirst, Cond.code yX5_putFirst cX5_putFirst 2 none, Cond.fieldLink RX5 15 "FirstSigns$Row" "signs" "[I", Cond.methodLink RX1 32 yX1_putAhead, Cond.instanceMethod yX1_putAhead, Cond.selects RX1 yX1_putAhead yX1_putAhead, Cond.code yX1_putAhead cX1_putAhead 5 none, Cond.methodLink RX1 40 yX5_putAllAhead, Cond.instanceMethod yX5_putAllAhead, Cond.selects RX5 yX5_putAllAhead yX5_putAllAhead, Cond.code yX5_putAllAhead cX5_putAllAhead 2 none]
def wsX7_many_r5 : List Cond := [Cond.methodLink RX5 35 arraycopyName, Cond.native arraycopyName, Cond.static arraycopyName, Cond.initialized "java/lang/System", Cond.methodLink RX7 171 yX7_breakingLetter, Cond.instanceMethod yX7_breakingLetter, Cond.selects RX7 yX7_breakingLetter yX7_breakingLetter, Cond.code yX7_breakingLetter cX7_breakingLetter 4 (some .int), Cond.methodLink RX7 142 yX6_claimOf, Cond.methodLink RX7 216 yX7_isBrokenBy, Cond.instanceMethod yX7_isBrokenBy, Cond.selects RX7 yX7_isBrokenBy yX7_isBrokenBy, Cond.code yX7_isBrokenBy cX7_isBrokenBy 7 (some .boolean), Cond.fieldLink RX7 58 "FirstSigns" "one" "LFirstSigns$Row;", Cond.fieldLink RX7 62 "FirstSigns" "two" "LFirstSigns$Row;", Cond.methodLink RX7 219 yX7_firstUnit, Cond.static yX7_firstUnit, Cond.code yX7_firstUnit cX7_firstUnit 1 (some .int), Cond.methodLink RX7 80 yX6_ruleOf, Cond.methodLink RX7 150 yX5_clear, Cond.methodLink RX7 153 yX1_putAhead, Cond.methodLink RX7 160 yX5_isSame, Cond.instanceMethod yX5_isSame, Cond.selects RX5 yX5_isSame yX5_isSame]
def wsX7_many_r6 : List Cond := [Cond.code yX5_isSame cX5_isSame 2 (some .boolean), Cond.methodLink RX5 47 yX5_sameFromLast, Cond.instanceMethod yX5_sameFromLast, Cond.selects RX5 yX5_sameFromLast yX5_sameFromLast, Cond.code yX5_sameFromLast cX5_sameFromLast 4 (some .int), Cond.methodLink RX5 41 Lib.Math.min.name, Cond.static Lib.Math.min.name, Cond.initialized "java/lang/Math", Cond.code Lib.Math.min.name Lib.Math.min.code 2 (some .int), Cond.methodLink RX5 25 yX5_fromLast, Cond.instanceMethod yX5_fromLast, Cond.selects RX5 yX5_fromLast yX5_fromLast, Cond.code yX5_fromLast cX5_fromLast 2 (some .int), Cond.methodLink RX7 180 yJ6_bitCount_0f7a4, Cond.static yJ6_bitCount_0f7a4, Cond.initialized RJ6, Cond.code yJ6_bitCount_0f7a4 cJ6_bitCount_0f7a4 1 (some .int), Cond.constant RJ6 265 (1431655765), Cond.constant RJ6 266 (858993459), Cond.constant RJ6 267 (252645135)]
def wsX7_many : List Cond := .code yX7_many cX7_many 2 (some .int) :: ((wsX7_many_r1 ++ (wsX7_many_r2 ++ (wsX7_many_r3 ++ (wsX7_many_r4 ++ (wsX7_many_r5 ++ wsX7_many_r6))))) ++ wsX70 ++ wsX60 ++ wsX20 ++ wsX30 ++ wsX10 ++ wsX50)
def wsX8_init : List Cond := .code yX8_init cX8_init 2 none :: ([.methodLink RX8 1 objectInit, .instanceMethod objectInit, .code objectInit ⟨#[0xb1]⟩ 1 none, .arrayClass .int, .fieldLink RX8 7 "FirstSignsModel" "told" "[I", .fieldLink RX8 13 "FirstSignsModel" "ahead" "[I", .fieldLink RX8 16 "FirstSignsModel" "stack" "[I", .fieldLink RX8 19 "FirstSignsModel" "norms" "[I", .fieldLink RX8 22 "FirstSignsModel" "wordsOf" "[I", .fieldLink RX8 25 "FirstSignsModel" "counted" "[I", .fieldLink RX8 28 "FirstSignsModel" "before" "[I", .fieldLink RX8 31 "FirstSignsModel" "one" "[I", .fieldLink RX8 34 "FirstSignsModel" "other" "[I", .fieldLink RX8 37 "FirstSignsModel" "scratch" "[I"] ++ wsX80)
def wsX8_within : List Cond := .code yX8_within cX8_within 3 (some .boolean) :: ([])
def wsX8_has : List Cond := .code yX8_has cX8_has 2 (some .boolean) :: ([])
def wsX8_isSign : List Cond := .code yX8_isSign cX8_isSign 1 (some .boolean) :: ([.methodLink RX8 40 yX8_within, .static yX8_within, .initialized RX8, .code yX8_within cX8_within 3 (some .boolean)])
def wsX8_isLetter : List Cond := .code yX8_isLetter cX8_isLetter 1 (some .boolean) :: ([.methodLink RX8 40 yX8_within, .static yX8_within, .initialized RX8, .code yX8_within cX8_within 3 (some .boolean)])
def wsX8_ruleOf : List Cond := .code yX8_ruleOf cX8_ruleOf 3 (some .int) :: ([.fieldLink RX8 7 "FirstSignsModel" "told" "[I"] ++ wsX80)
def wsX8_claimOf : List Cond := .code yX8_claimOf cX8_claimOf 2 (some .int) :: ([.fieldLink RX8 7 "FirstSignsModel" "told" "[I"] ++ wsX80)
def wsX8_digits : List Cond := .code yX8_digits cX8_digits 6 (some .int) :: ([.constantLong RX8 44 (10), .methodLink RX8 40 yX8_within, .static yX8_within, .initialized RX8, .code yX8_within cX8_within 3 (some .boolean)])
def wsX8_isRow : List Cond := .code yX8_isRow cX8_isRow 2 (some .boolean) :: ([.methodLink RX8 46 yX8_digits, .static yX8_digits, .initialized RX8, .code yX8_digits cX8_digits 6 (some .int), .constantLong RX8 44 (10), .methodLink RX8 40 yX8_within, .static yX8_within, .code yX8_within cX8_within 3 (some .boolean)])
def wsX8_digitAt : List Cond := .code yX8_digitAt cX8_digitAt 7 (some .int) :: ([.constantLong RX8 44 (10)])
def wsX8_keeps : List Cond := .code yX8_keeps cX8_keeps 2 none :: ([.fieldLink RX8 50 "FirstSignsModel" "changes" "I", .fieldLink RX8 13 "FirstSignsModel" "ahead" "[I", .fieldLink RX8 7 "FirstSignsModel" "told" "[I"] ++ wsX80)
def wsX8_rule_r1 : List Cond := [Cond.fieldLink RX8 7 "FirstSignsModel" "told" "[I", Cond.methodLink RX8 54 yX8_isSign, Cond.static yX8_isSign, Cond.initialized RX8, Cond.code yX8_isSign cX8_isSign 1 (some .boolean), Cond.methodLink RX8 40 yX8_within, Cond.static yX8_within, Cond.code yX8_within cX8_within 3 (some .boolean), Cond.methodLink RX8 58 yX8_isLetter, Cond.static yX8_isLetter, Cond.code yX8_isLetter cX8_isLetter 1 (some .boolean), Cond.methodLink RX8 61 yX8_isRow, Cond.static yX8_isRow, Cond.code yX8_isRow cX8_isRow 2 (some .boolean), Cond.methodLink RX8 46 yX8_digits, Cond.static yX8_digits, Cond.code yX8_digits cX8_digits 6 (some .int), Cond.constantLong RX8 44 (10), Cond.methodLink RX8 65 yX8_keeps, Cond.instanceMethod yX8_keeps, Cond.selects RX8 yX8_keeps yX8_keeps, Cond.code yX8_keeps cX8_keeps 2 none, Cond.fieldLink RX8 50 "FirstSignsModel" "changes" "I", Cond.fieldLink RX8 13 "FirstSignsModel" "ahead" "[I"]
def wsX8_rule_r2 : List Cond := [Cond.methodLink RX8 68 yX8_ruleOf, Cond.instanceMethod yX8_ruleOf, Cond.selects RX8 yX8_ruleOf yX8_ruleOf, Cond.code yX8_ruleOf cX8_ruleOf 3 (some .int)]
def wsX8_rule : List Cond := .code yX8_rule cX8_rule 5 (some .int) :: ((wsX8_rule_r1 ++ wsX8_rule_r2) ++ wsX80)
def wsX8_ofRule : List Cond := .code yX8_ofRule cX8_ofRule 3 (some .int) :: ([.methodLink RX8 54 yX8_isSign, .static yX8_isSign, .initialized RX8, .code yX8_isSign cX8_isSign 1 (some .boolean), .methodLink RX8 40 yX8_within, .static yX8_within, .code yX8_within cX8_within 3 (some .boolean), .methodLink RX8 58 yX8_isLetter, .static yX8_isLetter, .code yX8_isLetter cX8_isLetter 1 (some .boolean), .methodLink RX8 68 yX8_ruleOf, .instanceMethod yX8_ruleOf, .selects RX8 yX8_ruleOf yX8_ruleOf, .code yX8_ruleOf cX8_ruleOf 3 (some .int), .fieldLink RX8 7 "FirstSignsModel" "told" "[I"] ++ wsX80)
def wsX8_stacks : List Cond := .code yX8_stacks cX8_stacks 4 none :: ([.fieldLink RX8 16 "FirstSignsModel" "stack" "[I", .fieldLink RX8 72 "FirstSignsModel" "stacked" "I", .methodLink RX8 46 yX8_digits, .static yX8_digits, .initialized RX8, .code yX8_digits cX8_digits 6 (some .int), .constantLong RX8 44 (10), .methodLink RX8 40 yX8_within, .static yX8_within, .code yX8_within cX8_within 3 (some .boolean), .methodLink RX8 75 yX8_digitAt, .static yX8_digitAt, .code yX8_digitAt cX8_digitAt 7 (some .int)] ++ wsX80)
def wsX8_reads : List Cond := .code yX8_reads cX8_reads 2 (some .boolean) :: ([.fieldLink RX8 72 "FirstSignsModel" "stacked" "I", .fieldLink RX8 16 "FirstSignsModel" "stack" "[I", .methodLink RX8 68 yX8_ruleOf, .instanceMethod yX8_ruleOf, .selects RX8 yX8_ruleOf yX8_ruleOf, .initialized RX8, .code yX8_ruleOf cX8_ruleOf 3 (some .int), .fieldLink RX8 7 "FirstSignsModel" "told" "[I", .methodLink RX8 79 yX8_stacks, .instanceMethod yX8_stacks, .selects RX8 yX8_stacks yX8_stacks, .code yX8_stacks cX8_stacks 4 none, .methodLink RX8 46 yX8_digits, .static yX8_digits, .code yX8_digits cX8_digits 6 (some .int), .constantLong RX8 44 (10), .methodLink RX8 40 yX8_within, .static yX8_within, .code yX8_within cX8_within 3 (some .boolean), .methodLink RX8 75 yX8_digitAt, .static yX8_digitAt, .code yX8_digitAt cX8_digitAt 7 (some .int)] ++ wsX80)
def wsX8_readMany_r1 : List Cond := [Cond.fieldLink RX8 72 "FirstSignsModel" "stacked" "I", Cond.methodLink RX8 79 yX8_stacks, Cond.instanceMethod yX8_stacks, Cond.selects RX8 yX8_stacks yX8_stacks, Cond.initialized RX8, Cond.code yX8_stacks cX8_stacks 4 none, Cond.fieldLink RX8 16 "FirstSignsModel" "stack" "[I", Cond.methodLink RX8 46 yX8_digits, Cond.static yX8_digits, Cond.code yX8_digits cX8_digits 6 (some .int), Cond.constantLong RX8 44 (10), Cond.methodLink RX8 40 yX8_within, Cond.static yX8_within, Cond.code yX8_within cX8_within 3 (some .boolean), Cond.methodLink RX8 75 yX8_digitAt, Cond.static yX8_digitAt, Cond.code yX8_digitAt cX8_digitAt 7 (some .int), Cond.methodLink RX8 83 yX8_reads, Cond.instanceMethod yX8_reads, Cond.selects RX8 yX8_reads yX8_reads, Cond.code yX8_reads cX8_reads 2 (some .boolean), Cond.methodLink RX8 68 yX8_ruleOf, Cond.instanceMethod yX8_ruleOf, Cond.selects RX8 yX8_ruleOf yX8_ruleOf]
def wsX8_readMany_r2 : List Cond := [Cond.code yX8_ruleOf cX8_ruleOf 3 (some .int), Cond.fieldLink RX8 7 "FirstSignsModel" "told" "[I"]
def wsX8_readMany : List Cond := .code yX8_readMany cX8_readMany 6 (some .int) :: ((wsX8_readMany_r1 ++ wsX8_readMany_r2) ++ wsX80)
def wsX8_read_r1 : List Cond := [Cond.fieldLink RX8 72 "FirstSignsModel" "stacked" "I", Cond.fieldLink RX8 16 "FirstSignsModel" "stack" "[I", Cond.methodLink RX8 46 yX8_digits, Cond.static yX8_digits, Cond.initialized RX8, Cond.code yX8_digits cX8_digits 6 (some .int), Cond.constantLong RX8 44 (10), Cond.methodLink RX8 40 yX8_within, Cond.static yX8_within, Cond.code yX8_within cX8_within 3 (some .boolean), Cond.methodLink RX8 61 yX8_isRow, Cond.static yX8_isRow, Cond.code yX8_isRow cX8_isRow 2 (some .boolean), Cond.methodLink RX8 86 yX8_readMany, Cond.instanceMethod yX8_readMany, Cond.selects RX8 yX8_readMany yX8_readMany, Cond.code yX8_readMany cX8_readMany 6 (some .int), Cond.methodLink RX8 79 yX8_stacks, Cond.instanceMethod yX8_stacks, Cond.selects RX8 yX8_stacks yX8_stacks, Cond.code yX8_stacks cX8_stacks 4 none, Cond.methodLink RX8 75 yX8_digitAt, Cond.static yX8_digitAt, Cond.code yX8_digitAt cX8_digitAt 7 (some .int)]
def wsX8_read_r2 : List Cond := [Cond.methodLink RX8 83 yX8_reads, Cond.instanceMethod yX8_reads, Cond.selects RX8 yX8_reads yX8_reads, Cond.code yX8_reads cX8_reads 2 (some .boolean), Cond.methodLink RX8 68 yX8_ruleOf, Cond.instanceMethod yX8_ruleOf, Cond.selects RX8 yX8_ruleOf yX8_ruleOf, Cond.code yX8_ruleOf cX8_ruleOf 3 (some .int), Cond.fieldLink RX8 7 "FirstSignsModel" "told" "[I"]
def wsX8_read : List Cond := .code yX8_read cX8_read 7 (some .int) :: ((wsX8_read_r1 ++ wsX8_read_r2) ++ wsX80)
def wsX8_normOf : List Cond := .code yX8_normOf cX8_normOf 6 (some .int) :: ([.fieldLink RX8 19 "FirstSignsModel" "norms" "[I", .methodLink RX8 46 yX8_digits, .static yX8_digits, .initialized RX8, .code yX8_digits cX8_digits 6 (some .int), .constantLong RX8 44 (10), .methodLink RX8 40 yX8_within, .static yX8_within, .code yX8_within cX8_within 3 (some .boolean), .methodLink RX8 75 yX8_digitAt, .static yX8_digitAt, .code yX8_digitAt cX8_digitAt 7 (some .int)] ++ wsX80)
def wsX8_findNorms : List Cond := .code yX8_findNorms cX8_findNorms 5 none :: ([.fieldLink RX8 19 "FirstSignsModel" "norms" "[I", .fieldLink RX8 7 "FirstSignsModel" "told" "[I", .methodLink RX8 90 yX8_normOf, .instanceMethod yX8_normOf, .selects RX8 yX8_normOf yX8_normOf, .initialized RX8, .code yX8_normOf cX8_normOf 6 (some .int), .methodLink RX8 46 yX8_digits, .static yX8_digits, .code yX8_digits cX8_digits 6 (some .int), .constantLong RX8 44 (10), .methodLink RX8 40 yX8_within, .static yX8_within, .code yX8_within cX8_within 3 (some .boolean), .methodLink RX8 75 yX8_digitAt, .static yX8_digitAt, .code yX8_digitAt cX8_digitAt 7 (some .int)] ++ wsX80)
def wsX8_norm : List Cond := .code yX8_norm cX8_norm 2 (some .int) :: ([.methodLink RX8 61 yX8_isRow, .static yX8_isRow, .initialized RX8, .code yX8_isRow cX8_isRow 2 (some .boolean), .methodLink RX8 46 yX8_digits, .static yX8_digits, .code yX8_digits cX8_digits 6 (some .int), .constantLong RX8 44 (10), .methodLink RX8 40 yX8_within, .static yX8_within, .code yX8_within cX8_within 3 (some .boolean), .methodLink RX8 94 yX8_findNorms, .instanceMethod yX8_findNorms, .selects RX8 yX8_findNorms yX8_findNorms, .code yX8_findNorms cX8_findNorms 5 none, .fieldLink RX8 19 "FirstSignsModel" "norms" "[I", .fieldLink RX8 7 "FirstSignsModel" "told" "[I", .methodLink RX8 90 yX8_normOf, .instanceMethod yX8_normOf, .selects RX8 yX8_normOf yX8_normOf, .code yX8_normOf cX8_normOf 6 (some .int), .methodLink RX8 75 yX8_digitAt, .static yX8_digitAt, .code yX8_digitAt cX8_digitAt 7 (some .int)] ++ wsX80)
def wsX8_least_r1 : List Cond := [Cond.constantLong RX8 97 (-9223372036854775808), Cond.constantLong RX8 99 (-9), Cond.fieldLink RX8 72 "FirstSignsModel" "stacked" "I", Cond.fieldLink RX8 16 "FirstSignsModel" "stack" "[I", Cond.fieldLink RX8 19 "FirstSignsModel" "norms" "[I", Cond.constantLong RX8 44 (10), Cond.methodLink RX8 61 yX8_isRow, Cond.static yX8_isRow, Cond.initialized RX8, Cond.code yX8_isRow cX8_isRow 2 (some .boolean), Cond.methodLink RX8 46 yX8_digits, Cond.static yX8_digits, Cond.code yX8_digits cX8_digits 6 (some .int), Cond.methodLink RX8 40 yX8_within, Cond.static yX8_within, Cond.code yX8_within cX8_within 3 (some .boolean), Cond.methodLink RX8 94 yX8_findNorms, Cond.instanceMethod yX8_findNorms, Cond.selects RX8 yX8_findNorms yX8_findNorms, Cond.code yX8_findNorms cX8_findNorms 5 none, Cond.fieldLink RX8 7 "FirstSignsModel" "told" "[I", Cond.methodLink RX8 90 yX8_normOf, Cond.instanceMethod yX8_normOf, Cond.selects RX8 yX8_normOf yX8_normOf]
def wsX8_least_r2 : List Cond := [Cond.code yX8_normOf cX8_normOf 6 (some .int), Cond.methodLink RX8 75 yX8_digitAt, Cond.static yX8_digitAt, Cond.code yX8_digitAt cX8_digitAt 7 (some .int), Cond.methodLink RX8 79 yX8_stacks, Cond.instanceMethod yX8_stacks, Cond.selects RX8 yX8_stacks yX8_stacks, Cond.code yX8_stacks cX8_stacks 4 none, Cond.methodLink RX8 68 yX8_ruleOf, Cond.instanceMethod yX8_ruleOf, Cond.selects RX8 yX8_ruleOf yX8_ruleOf, Cond.code yX8_ruleOf cX8_ruleOf 3 (some .int), Cond.methodLink RX8 83 yX8_reads, Cond.instanceMethod yX8_reads, Cond.selects RX8 yX8_reads yX8_reads, Cond.code yX8_reads cX8_reads 2 (some .boolean)]
def wsX8_least : List Cond := .code yX8_least cX8_least 7 (some .long) :: ((wsX8_least_r1 ++ wsX8_least_r2) ++ wsX80)
def wsX8_countsRow : List Cond := .code yX8_countsRow cX8_countsRow 8 none :: ([.fieldLink RX8 25 "FirstSignsModel" "counted" "[I", .fieldLink RX8 28 "FirstSignsModel" "before" "[I", .fieldLink RX8 22 "FirstSignsModel" "wordsOf" "[I", .methodLink RX8 46 yX8_digits, .static yX8_digits, .initialized RX8, .code yX8_digits cX8_digits 6 (some .int), .constantLong RX8 44 (10), .methodLink RX8 40 yX8_within, .static yX8_within, .code yX8_within cX8_within 3 (some .boolean), .methodLink RX8 75 yX8_digitAt, .static yX8_digitAt, .code yX8_digitAt cX8_digitAt 7 (some .int)] ++ wsX80)
def wsX8_countsSigns : List Cond := .code yX8_countsSigns cX8_countsSigns 4 none :: ([.fieldLink RX8 22 "FirstSignsModel" "wordsOf" "[I", .fieldLink RX8 7 "FirstSignsModel" "told" "[I", .fieldLink RX8 25 "FirstSignsModel" "counted" "[I", .methodLink RX8 101 yX8_countsRow, .instanceMethod yX8_countsRow, .selects RX8 yX8_countsRow yX8_countsRow, .initialized RX8, .code yX8_countsRow cX8_countsRow 8 none, .fieldLink RX8 28 "FirstSignsModel" "before" "[I", .methodLink RX8 46 yX8_digits, .static yX8_digits, .code yX8_digits cX8_digits 6 (some .int), .constantLong RX8 44 (10), .methodLink RX8 40 yX8_within, .static yX8_within, .code yX8_within cX8_within 3 (some .boolean), .methodLink RX8 75 yX8_digitAt, .static yX8_digitAt, .code yX8_digitAt cX8_digitAt 7 (some .int)] ++ wsX80)
def wsX8_words_r1 : List Cond := [Cond.fieldLink RX8 25 "FirstSignsModel" "counted" "[I", Cond.methodLink RX8 61 yX8_isRow, Cond.static yX8_isRow, Cond.initialized RX8, Cond.code yX8_isRow cX8_isRow 2 (some .boolean), Cond.methodLink RX8 46 yX8_digits, Cond.static yX8_digits, Cond.code yX8_digits cX8_digits 6 (some .int), Cond.constantLong RX8 44 (10), Cond.methodLink RX8 40 yX8_within, Cond.static yX8_within, Cond.code yX8_within cX8_within 3 (some .boolean), Cond.methodLink RX8 105 yX8_countsSigns, Cond.instanceMethod yX8_countsSigns, Cond.selects RX8 yX8_countsSigns yX8_countsSigns, Cond.code yX8_countsSigns cX8_countsSigns 4 none, Cond.fieldLink RX8 22 "FirstSignsModel" "wordsOf" "[I", Cond.fieldLink RX8 7 "FirstSignsModel" "told" "[I", Cond.methodLink RX8 101 yX8_countsRow, Cond.instanceMethod yX8_countsRow, Cond.selects RX8 yX8_countsRow yX8_countsRow, Cond.code yX8_countsRow cX8_countsRow 8 none, Cond.fieldLink RX8 28 "FirstSignsModel" "before" "[I", Cond.methodLink RX8 75 yX8_digitAt]
def wsX8_words_r2 : List Cond := [Cond.static yX8_digitAt, Cond.code yX8_digitAt cX8_digitAt 7 (some .int)]
def wsX8_words : List Cond := .code yX8_words cX8_words 3 (some .int) :: ((wsX8_words_r1 ++ wsX8_words_r2) ++ wsX80)
def wsX8_is_r1 : List Cond := [Cond.fieldLink RX8 72 "FirstSignsModel" "stacked" "I", Cond.methodLink RX8 86 yX8_readMany, Cond.instanceMethod yX8_readMany, Cond.selects RX8 yX8_readMany yX8_readMany, Cond.initialized RX8, Cond.code yX8_readMany cX8_readMany 6 (some .int), Cond.methodLink RX8 79 yX8_stacks, Cond.instanceMethod yX8_stacks, Cond.selects RX8 yX8_stacks yX8_stacks, Cond.code yX8_stacks cX8_stacks 4 none, Cond.fieldLink RX8 16 "FirstSignsModel" "stack" "[I", Cond.methodLink RX8 46 yX8_digits, Cond.static yX8_digits, Cond.code yX8_digits cX8_digits 6 (some .int), Cond.constantLong RX8 44 (10), Cond.methodLink RX8 40 yX8_within, Cond.static yX8_within, Cond.code yX8_within cX8_within 3 (some .boolean), Cond.methodLink RX8 75 yX8_digitAt, Cond.static yX8_digitAt, Cond.code yX8_digitAt cX8_digitAt 7 (some .int), Cond.methodLink RX8 83 yX8_reads, Cond.instanceMethod yX8_reads, Cond.selects RX8 yX8_reads yX8_reads]
def wsX8_is_r2 : List Cond := [Cond.code yX8_reads cX8_reads 2 (some .boolean), Cond.methodLink RX8 68 yX8_ruleOf, Cond.instanceMethod yX8_ruleOf, Cond.selects RX8 yX8_ruleOf yX8_ruleOf, Cond.code yX8_ruleOf cX8_ruleOf 3 (some .int), Cond.fieldLink RX8 7 "FirstSignsModel" "told" "[I"]
def wsX8_is : List Cond := .code yX8_is cX8_is 7 (some .boolean) :: ((wsX8_is_r1 ++ wsX8_is_r2) ++ wsX80)
def wsX8_lettersBy : List Cond := .code yX8_lettersBy cX8_lettersBy 8 (some .long) :: ([.constantLong RX8 44 (10)])
def wsX8_parts_r1 : List Cond := [Cond.constantLong RX8 97 (-9223372036854775808), Cond.constantLong RX8 99 (-9), Cond.methodLink RX8 61 yX8_isRow, Cond.static yX8_isRow, Cond.initialized RX8, Cond.code yX8_isRow cX8_isRow 2 (some .boolean), Cond.methodLink RX8 46 yX8_digits, Cond.static yX8_digits, Cond.code yX8_digits cX8_digits 6 (some .int), Cond.constantLong RX8 44 (10), Cond.methodLink RX8 40 yX8_within, Cond.static yX8_within, Cond.code yX8_within cX8_within 3 (some .boolean), Cond.methodLink RX8 108 yX8_lettersBy, Cond.static yX8_lettersBy, Cond.code yX8_lettersBy cX8_lettersBy 8 (some .long), Cond.methodLink RX8 112 yX8_is, Cond.instanceMethod yX8_is, Cond.selects RX8 yX8_is yX8_is, Cond.code yX8_is cX8_is 7 (some .boolean), Cond.fieldLink RX8 72 "FirstSignsModel" "stacked" "I", Cond.methodLink RX8 86 yX8_readMany, Cond.instanceMethod yX8_readMany, Cond.selects RX8 yX8_readMany yX8_readMany]
def wsX8_parts_r2 : List Cond := [Cond.code yX8_readMany cX8_readMany 6 (some .int), Cond.methodLink RX8 79 yX8_stacks, Cond.instanceMethod yX8_stacks, Cond.selects RX8 yX8_stacks yX8_stacks, Cond.code yX8_stacks cX8_stacks 4 none, Cond.fieldLink RX8 16 "FirstSignsModel" "stack" "[I", Cond.methodLink RX8 75 yX8_digitAt, Cond.static yX8_digitAt, Cond.code yX8_digitAt cX8_digitAt 7 (some .int), Cond.methodLink RX8 83 yX8_reads, Cond.instanceMethod yX8_reads, Cond.selects RX8 yX8_reads yX8_reads, Cond.code yX8_reads cX8_reads 2 (some .boolean), Cond.methodLink RX8 68 yX8_ruleOf, Cond.instanceMethod yX8_ruleOf, Cond.selects RX8 yX8_ruleOf yX8_ruleOf, Cond.code yX8_ruleOf cX8_ruleOf 3 (some .int), Cond.fieldLink RX8 7 "FirstSignsModel" "told" "[I"]
def wsX8_parts : List Cond := .code yX8_parts cX8_parts 9 (some .long) :: ((wsX8_parts_r1 ++ wsX8_parts_r2) ++ wsX80)
def wsX8_comesFirst : List Cond := .code yX8_comesFirst cX8_comesFirst 6 (some .int) :: ([.fieldLink RX8 19 "FirstSignsModel" "norms" "[I", .methodLink RX8 46 yX8_digits, .static yX8_digits, .initialized RX8, .code yX8_digits cX8_digits 6 (some .int), .constantLong RX8 44 (10), .methodLink RX8 40 yX8_within, .static yX8_within, .code yX8_within cX8_within 3 (some .boolean), .methodLink RX8 75 yX8_digitAt, .static yX8_digitAt, .code yX8_digitAt cX8_digitAt 7 (some .int)] ++ wsX80)
def wsX8_firsts_r1 : List Cond := [Cond.fieldLink RX8 7 "FirstSignsModel" "told" "[I", Cond.methodLink RX8 61 yX8_isRow, Cond.static yX8_isRow, Cond.initialized RX8, Cond.code yX8_isRow cX8_isRow 2 (some .boolean), Cond.methodLink RX8 46 yX8_digits, Cond.static yX8_digits, Cond.code yX8_digits cX8_digits 6 (some .int), Cond.constantLong RX8 44 (10), Cond.methodLink RX8 40 yX8_within, Cond.static yX8_within, Cond.code yX8_within cX8_within 3 (some .boolean), Cond.methodLink RX8 94 yX8_findNorms, Cond.instanceMethod yX8_findNorms, Cond.selects RX8 yX8_findNorms yX8_findNorms, Cond.code yX8_findNorms cX8_findNorms 5 none, Cond.fieldLink RX8 19 "FirstSignsModel" "norms" "[I", Cond.methodLink RX8 90 yX8_normOf, Cond.instanceMethod yX8_normOf, Cond.selects RX8 yX8_normOf yX8_normOf, Cond.code yX8_normOf cX8_normOf 6 (some .int), Cond.methodLink RX8 75 yX8_digitAt, Cond.static yX8_digitAt, Cond.code yX8_digitAt cX8_digitAt 7 (some .int)]
def wsX8_firsts_r2 : List Cond := [Cond.methodLink RX8 116 yX8_comesFirst, Cond.instanceMethod yX8_comesFirst, Cond.selects RX8 yX8_comesFirst yX8_comesFirst, Cond.code yX8_comesFirst cX8_comesFirst 6 (some .int), Cond.methodLink RX8 119 yX8_has, Cond.static yX8_has, Cond.code yX8_has cX8_has 2 (some .boolean)]
def wsX8_firsts : List Cond := .code yX8_firsts cX8_firsts 5 (some .int) :: ((wsX8_firsts_r1 ++ wsX8_firsts_r2) ++ wsX80)
def wsX8_isClaim : List Cond := .code yX8_isClaim cX8_isClaim 3 (some .boolean) :: ([.methodLink RX8 46 yX8_digits, .static yX8_digits, .initialized RX8, .code yX8_digits cX8_digits 6 (some .int), .constantLong RX8 44 (10), .methodLink RX8 40 yX8_within, .static yX8_within, .code yX8_within cX8_within 3 (some .boolean)])
def wsX8_claim_r1 : List Cond := [Cond.fieldLink RX8 7 "FirstSignsModel" "told" "[I", Cond.methodLink RX8 54 yX8_isSign, Cond.static yX8_isSign, Cond.initialized RX8, Cond.code yX8_isSign cX8_isSign 1 (some .boolean), Cond.methodLink RX8 40 yX8_within, Cond.static yX8_within, Cond.code yX8_within cX8_within 3 (some .boolean), Cond.methodLink RX8 122 yX8_isClaim, Cond.static yX8_isClaim, Cond.code yX8_isClaim cX8_isClaim 3 (some .boolean), Cond.methodLink RX8 46 yX8_digits, Cond.static yX8_digits, Cond.code yX8_digits cX8_digits 6 (some .int), Cond.constantLong RX8 44 (10), Cond.methodLink RX8 65 yX8_keeps, Cond.instanceMethod yX8_keeps, Cond.selects RX8 yX8_keeps yX8_keeps, Cond.code yX8_keeps cX8_keeps 2 none, Cond.fieldLink RX8 50 "FirstSignsModel" "changes" "I", Cond.fieldLink RX8 13 "FirstSignsModel" "ahead" "[I", Cond.methodLink RX8 125 yX8_claimOf, Cond.instanceMethod yX8_claimOf, Cond.selects RX8 yX8_claimOf yX8_claimOf]
def wsX8_claim_r2 : List Cond := [Cond.code yX8_claimOf cX8_claimOf 2 (some .int)]
def wsX8_claim : List Cond := .code yX8_claim cX8_claim 4 (some .int) :: ((wsX8_claim_r1 ++ wsX8_claim_r2) ++ wsX80)
def wsX8_ofClaim : List Cond := .code yX8_ofClaim cX8_ofClaim 2 (some .int) :: ([.methodLink RX8 54 yX8_isSign, .static yX8_isSign, .initialized RX8, .code yX8_isSign cX8_isSign 1 (some .boolean), .methodLink RX8 40 yX8_within, .static yX8_within, .code yX8_within cX8_within 3 (some .boolean), .methodLink RX8 125 yX8_claimOf, .instanceMethod yX8_claimOf, .selects RX8 yX8_claimOf yX8_claimOf, .code yX8_claimOf cX8_claimOf 2 (some .int), .fieldLink RX8 7 "FirstSignsModel" "told" "[I"] ++ wsX80)
def wsX8_lays : List Cond := .code yX8_lays cX8_lays 5 (some .int) :: ([.methodLink RX8 46 yX8_digits, .static yX8_digits, .initialized RX8, .code yX8_digits cX8_digits 6 (some .int), .constantLong RX8 44 (10), .methodLink RX8 40 yX8_within, .static yX8_within, .code yX8_within cX8_within 3 (some .boolean), .methodLink RX8 75 yX8_digitAt, .static yX8_digitAt, .code yX8_digitAt cX8_digitAt 7 (some .int)])
def wsX8_reduces : List Cond := .code yX8_reduces cX8_reduces 7 (some .int) :: ([.fieldLink RX8 37 "FirstSignsModel" "scratch" "[I", .methodLink RX8 125 yX8_claimOf, .instanceMethod yX8_claimOf, .selects RX8 yX8_claimOf yX8_claimOf, .initialized RX8, .code yX8_claimOf cX8_claimOf 2 (some .int), .fieldLink RX8 7 "FirstSignsModel" "told" "[I", .methodLink RX8 128 yX8_lays, .static yX8_lays, .code yX8_lays cX8_lays 5 (some .int), .methodLink RX8 46 yX8_digits, .static yX8_digits, .code yX8_digits cX8_digits 6 (some .int), .constantLong RX8 44 (10), .methodLink RX8 40 yX8_within, .static yX8_within, .code yX8_within cX8_within 3 (some .boolean), .methodLink RX8 75 yX8_digitAt, .static yX8_digitAt, .code yX8_digitAt cX8_digitAt 7 (some .int)] ++ wsX80)
def wsX8_reducesBoth_r1 : List Cond := [Cond.fieldLink RX8 31 "FirstSignsModel" "one" "[I", Cond.fieldLink RX8 136 "FirstSignsModel" "oneMany" "I", Cond.fieldLink RX8 34 "FirstSignsModel" "other" "[I", Cond.fieldLink RX8 139 "FirstSignsModel" "otherMany" "I", Cond.methodLink RX8 128 yX8_lays, Cond.static yX8_lays, Cond.initialized RX8, Cond.code yX8_lays cX8_lays 5 (some .int), Cond.methodLink RX8 46 yX8_digits, Cond.static yX8_digits, Cond.code yX8_digits cX8_digits 6 (some .int), Cond.constantLong RX8 44 (10), Cond.methodLink RX8 40 yX8_within, Cond.static yX8_within, Cond.code yX8_within cX8_within 3 (some .boolean), Cond.methodLink RX8 75 yX8_digitAt, Cond.static yX8_digitAt, Cond.code yX8_digitAt cX8_digitAt 7 (some .int), Cond.methodLink RX8 132 yX8_reduces, Cond.instanceMethod yX8_reduces, Cond.selects RX8 yX8_reduces yX8_reduces, Cond.code yX8_reduces cX8_reduces 7 (some .int), Cond.fieldLink RX8 37 "FirstSignsModel" "scratch" "[I", Cond.methodLink RX8 125 yX8_claimOf]
def wsX8_reducesBoth_r2 : List Cond := [Cond.instanceMethod yX8_claimOf, Cond.selects RX8 yX8_claimOf yX8_claimOf, Cond.code yX8_claimOf cX8_claimOf 2 (some .int), Cond.fieldLink RX8 7 "FirstSignsModel" "told" "[I"]
def wsX8_reducesBoth : List Cond := .code yX8_reducesBoth cX8_reducesBoth 3 none :: ((wsX8_reducesBoth_r1 ++ wsX8_reducesBoth_r2) ++ wsX80)
def wsX8_alikeFrom : List Cond := .code yX8_alikeFrom cX8_alikeFrom 5 (some .int) :: ([.fieldLink RX8 136 "FirstSignsModel" "oneMany" "I", .fieldLink RX8 139 "FirstSignsModel" "otherMany" "I", .fieldLink RX8 31 "FirstSignsModel" "one" "[I", .fieldLink RX8 34 "FirstSignsModel" "other" "[I"] ++ wsX80)
def wsX8_areAlike : List Cond := .code yX8_areAlike cX8_areAlike 1 (some .boolean) :: ([.fieldLink RX8 136 "FirstSignsModel" "oneMany" "I", .fieldLink RX8 139 "FirstSignsModel" "otherMany" "I", .methodLink RX8 142 yX8_alikeFrom, .instanceMethod yX8_alikeFrom, .selects RX8 yX8_alikeFrom yX8_alikeFrom, .initialized RX8, .code yX8_alikeFrom cX8_alikeFrom 5 (some .int), .fieldLink RX8 31 "FirstSignsModel" "one" "[I", .fieldLink RX8 34 "FirstSignsModel" "other" "[I"] ++ wsX80)
def wsX8_reduced_r1 : List Cond := [Cond.fieldLink RX8 136 "FirstSignsModel" "oneMany" "I", Cond.fieldLink RX8 31 "FirstSignsModel" "one" "[I", Cond.methodLink RX8 61 yX8_isRow, Cond.static yX8_isRow, Cond.initialized RX8, Cond.code yX8_isRow cX8_isRow 2 (some .boolean), Cond.methodLink RX8 46 yX8_digits, Cond.static yX8_digits, Cond.code yX8_digits cX8_digits 6 (some .int), Cond.constantLong RX8 44 (10), Cond.methodLink RX8 40 yX8_within, Cond.static yX8_within, Cond.code yX8_within cX8_within 3 (some .boolean), Cond.methodLink RX8 146 yX8_reducesBoth, Cond.instanceMethod yX8_reducesBoth, Cond.selects RX8 yX8_reducesBoth yX8_reducesBoth, Cond.code yX8_reducesBoth cX8_reducesBoth 3 none, Cond.fieldLink RX8 34 "FirstSignsModel" "other" "[I", Cond.fieldLink RX8 139 "FirstSignsModel" "otherMany" "I", Cond.methodLink RX8 128 yX8_lays, Cond.static yX8_lays, Cond.code yX8_lays cX8_lays 5 (some .int), Cond.methodLink RX8 75 yX8_digitAt, Cond.static yX8_digitAt]
def wsX8_reduced_r2 : List Cond := [Cond.code yX8_digitAt cX8_digitAt 7 (some .int), Cond.methodLink RX8 132 yX8_reduces, Cond.instanceMethod yX8_reduces, Cond.selects RX8 yX8_reduces yX8_reduces, Cond.code yX8_reduces cX8_reduces 7 (some .int), Cond.fieldLink RX8 37 "FirstSignsModel" "scratch" "[I", Cond.methodLink RX8 125 yX8_claimOf, Cond.instanceMethod yX8_claimOf, Cond.selects RX8 yX8_claimOf yX8_claimOf, Cond.code yX8_claimOf cX8_claimOf 2 (some .int), Cond.fieldLink RX8 7 "FirstSignsModel" "told" "[I"]
def wsX8_reduced : List Cond := .code yX8_reduced cX8_reduced 3 (some .int) :: ((wsX8_reduced_r1 ++ wsX8_reduced_r2) ++ wsX80)
def wsX8_alike_r1 : List Cond := [Cond.methodLink RX8 61 yX8_isRow, Cond.static yX8_isRow, Cond.initialized RX8, Cond.code yX8_isRow cX8_isRow 2 (some .boolean), Cond.methodLink RX8 46 yX8_digits, Cond.static yX8_digits, Cond.code yX8_digits cX8_digits 6 (some .int), Cond.constantLong RX8 44 (10), Cond.methodLink RX8 40 yX8_within, Cond.static yX8_within, Cond.code yX8_within cX8_within 3 (some .boolean), Cond.methodLink RX8 146 yX8_reducesBoth, Cond.instanceMethod yX8_reducesBoth, Cond.selects RX8 yX8_reducesBoth yX8_reducesBoth, Cond.code yX8_reducesBoth cX8_reducesBoth 3 none, Cond.fieldLink RX8 31 "FirstSignsModel" "one" "[I", Cond.fieldLink RX8 136 "FirstSignsModel" "oneMany" "I", Cond.fieldLink RX8 34 "FirstSignsModel" "other" "[I", Cond.fieldLink RX8 139 "FirstSignsModel" "otherMany" "I", Cond.methodLink RX8 128 yX8_lays, Cond.static yX8_lays, Cond.code yX8_lays cX8_lays 5 (some .int), Cond.methodLink RX8 75 yX8_digitAt, Cond.static yX8_digitAt]
def wsX8_alike_r2 : List Cond := [Cond.code yX8_digitAt cX8_digitAt 7 (some .int), Cond.methodLink RX8 132 yX8_reduces, Cond.instanceMethod yX8_reduces, Cond.selects RX8 yX8_reduces yX8_reduces, Cond.code yX8_reduces cX8_reduces 7 (some .int), Cond.fieldLink RX8 37 "FirstSignsModel" "scratch" "[I", Cond.methodLink RX8 125 yX8_claimOf, Cond.instanceMethod yX8_claimOf, Cond.selects RX8 yX8_claimOf yX8_claimOf, Cond.code yX8_claimOf cX8_claimOf 2 (some .int), Cond.fieldLink RX8 7 "FirstSignsModel" "told" "[I", Cond.methodLink RX8 149 yX8_areAlike, Cond.instanceMethod yX8_areAlike, Cond.selects RX8 yX8_areAlike yX8_areAlike, Cond.code yX8_areAlike cX8_areAlike 1 (some .boolean), Cond.methodLink RX8 142 yX8_alikeFrom, Cond.instanceMethod yX8_alikeFrom, Cond.selects RX8 yX8_alikeFrom yX8_alikeFrom, Cond.code yX8_alikeFrom cX8_alikeFrom 5 (some .int)]
def wsX8_alike : List Cond := .code yX8_alike cX8_alike 3 (some .int) :: ((wsX8_alike_r1 ++ wsX8_alike_r2) ++ wsX80)
def wsX8_common_r1 : List Cond := [Cond.methodLink RX8 61 yX8_isRow, Cond.static yX8_isRow, Cond.initialized RX8, Cond.code yX8_isRow cX8_isRow 2 (some .boolean), Cond.methodLink RX8 46 yX8_digits, Cond.static yX8_digits, Cond.code yX8_digits cX8_digits 6 (some .int), Cond.constantLong RX8 44 (10), Cond.methodLink RX8 40 yX8_within, Cond.static yX8_within, Cond.code yX8_within cX8_within 3 (some .boolean), Cond.methodLink RX8 146 yX8_reducesBoth, Cond.instanceMethod yX8_reducesBoth, Cond.selects RX8 yX8_reducesBoth yX8_reducesBoth, Cond.code yX8_reducesBoth cX8_reducesBoth 3 none, Cond.fieldLink RX8 31 "FirstSignsModel" "one" "[I", Cond.fieldLink RX8 136 "FirstSignsModel" "oneMany" "I", Cond.fieldLink RX8 34 "FirstSignsModel" "other" "[I", Cond.fieldLink RX8 139 "FirstSignsModel" "otherMany" "I", Cond.methodLink RX8 128 yX8_lays, Cond.static yX8_lays, Cond.code yX8_lays cX8_lays 5 (some .int), Cond.methodLink RX8 75 yX8_digitAt, Cond.static yX8_digitAt]
def wsX8_common_r2 : List Cond := [Cond.code yX8_digitAt cX8_digitAt 7 (some .int), Cond.methodLink RX8 132 yX8_reduces, Cond.instanceMethod yX8_reduces, Cond.selects RX8 yX8_reduces yX8_reduces, Cond.code yX8_reduces cX8_reduces 7 (some .int), Cond.fieldLink RX8 37 "FirstSignsModel" "scratch" "[I", Cond.methodLink RX8 125 yX8_claimOf, Cond.instanceMethod yX8_claimOf, Cond.selects RX8 yX8_claimOf yX8_claimOf, Cond.code yX8_claimOf cX8_claimOf 2 (some .int), Cond.fieldLink RX8 7 "FirstSignsModel" "told" "[I", Cond.methodLink RX8 142 yX8_alikeFrom, Cond.instanceMethod yX8_alikeFrom, Cond.selects RX8 yX8_alikeFrom yX8_alikeFrom, Cond.code yX8_alikeFrom cX8_alikeFrom 5 (some .int)]
def wsX8_common : List Cond := .code yX8_common cX8_common 4 (some .int) :: ((wsX8_common_r1 ++ wsX8_common_r2) ++ wsX80)
def wsX8_breaks_r1 : List Cond := [Cond.fieldLink RX8 31 "FirstSignsModel" "one" "[I", Cond.fieldLink RX8 136 "FirstSignsModel" "oneMany" "I", Cond.fieldLink RX8 34 "FirstSignsModel" "other" "[I", Cond.fieldLink RX8 139 "FirstSignsModel" "otherMany" "I", Cond.methodLink RX8 125 yX8_claimOf, Cond.instanceMethod yX8_claimOf, Cond.selects RX8 yX8_claimOf yX8_claimOf, Cond.initialized RX8, Cond.code yX8_claimOf cX8_claimOf 2 (some .int), Cond.fieldLink RX8 7 "FirstSignsModel" "told" "[I", Cond.methodLink RX8 46 yX8_digits, Cond.static yX8_digits, Cond.code yX8_digits cX8_digits 6 (some .int), Cond.constantLong RX8 44 (10), Cond.methodLink RX8 40 yX8_within, Cond.static yX8_within, Cond.code yX8_within cX8_within 3 (some .boolean), Cond.methodLink RX8 68 yX8_ruleOf, Cond.instanceMethod yX8_ruleOf, Cond.selects RX8 yX8_ruleOf yX8_ruleOf, Cond.code yX8_ruleOf cX8_ruleOf 3 (some .int), Cond.methodLink RX8 75 yX8_digitAt, Cond.static yX8_digitAt, Cond.code yX8_digitAt cX8_digitAt 7 (some .int)]
def wsX8_breaks_r2 : List Cond := [Cond.methodLink RX8 128 yX8_lays, Cond.static yX8_lays, Cond.code yX8_lays cX8_lays 5 (some .int), Cond.methodLink RX8 132 yX8_reduces, Cond.instanceMethod yX8_reduces, Cond.selects RX8 yX8_reduces yX8_reduces, Cond.code yX8_reduces cX8_reduces 7 (some .int), Cond.fieldLink RX8 37 "FirstSignsModel" "scratch" "[I", Cond.methodLink RX8 149 yX8_areAlike, Cond.instanceMethod yX8_areAlike, Cond.selects RX8 yX8_areAlike yX8_areAlike, Cond.code yX8_areAlike cX8_areAlike 1 (some .boolean), Cond.methodLink RX8 142 yX8_alikeFrom, Cond.instanceMethod yX8_alikeFrom, Cond.selects RX8 yX8_alikeFrom yX8_alikeFrom, Cond.code yX8_alikeFrom cX8_alikeFrom 5 (some .int)]
def wsX8_breaks : List Cond := .code yX8_breaks cX8_breaks 9 (some .boolean) :: ((wsX8_breaks_r1 ++ wsX8_breaks_r2) ++ wsX80)
def wsX8_brokenBy_r1 : List Cond := [Cond.methodLink RX8 125 yX8_claimOf, Cond.instanceMethod yX8_claimOf, Cond.selects RX8 yX8_claimOf yX8_claimOf, Cond.initialized RX8, Cond.code yX8_claimOf cX8_claimOf 2 (some .int), Cond.fieldLink RX8 7 "FirstSignsModel" "told" "[I", Cond.methodLink RX8 153 yX8_breaks, Cond.instanceMethod yX8_breaks, Cond.selects RX8 yX8_breaks yX8_breaks, Cond.code yX8_breaks cX8_breaks 9 (some .boolean), Cond.fieldLink RX8 31 "FirstSignsModel" "one" "[I", Cond.fieldLink RX8 136 "FirstSignsModel" "oneMany" "I", Cond.fieldLink RX8 34 "FirstSignsModel" "other" "[I", Cond.fieldLink RX8 139 "FirstSignsModel" "otherMany" "I", Cond.methodLink RX8 46 yX8_digits, Cond.static yX8_digits, Cond.code yX8_digits cX8_digits 6 (some .int), Cond.constantLong RX8 44 (10), Cond.methodLink RX8 40 yX8_within, Cond.static yX8_within, Cond.code yX8_within cX8_within 3 (some .boolean), Cond.methodLink RX8 68 yX8_ruleOf, Cond.instanceMethod yX8_ruleOf, Cond.selects RX8 yX8_ruleOf yX8_ruleOf]
def wsX8_brokenBy_r2 : List Cond := [Cond.code yX8_ruleOf cX8_ruleOf 3 (some .int), Cond.methodLink RX8 75 yX8_digitAt, Cond.static yX8_digitAt, Cond.code yX8_digitAt cX8_digitAt 7 (some .int), Cond.methodLink RX8 128 yX8_lays, Cond.static yX8_lays, Cond.code yX8_lays cX8_lays 5 (some .int), Cond.methodLink RX8 132 yX8_reduces, Cond.instanceMethod yX8_reduces, Cond.selects RX8 yX8_reduces yX8_reduces, Cond.code yX8_reduces cX8_reduces 7 (some .int), Cond.fieldLink RX8 37 "FirstSignsModel" "scratch" "[I", Cond.methodLink RX8 149 yX8_areAlike, Cond.instanceMethod yX8_areAlike, Cond.selects RX8 yX8_areAlike yX8_areAlike, Cond.code yX8_areAlike cX8_areAlike 1 (some .boolean), Cond.methodLink RX8 142 yX8_alikeFrom, Cond.instanceMethod yX8_alikeFrom, Cond.selects RX8 yX8_alikeFrom yX8_alikeFrom, Cond.code yX8_alikeFrom cX8_alikeFrom 5 (some .int)]
def wsX8_brokenBy : List Cond := .code yX8_brokenBy cX8_brokenBy 3 (some .int) :: ((wsX8_brokenBy_r1 ++ wsX8_brokenBy_r2) ++ wsX80)
def wsX8_brokenNow_r1 : List Cond := [Cond.methodLink RX8 156 yX8_brokenBy, Cond.instanceMethod yX8_brokenBy, Cond.selects RX8 yX8_brokenBy yX8_brokenBy, Cond.initialized RX8, Cond.code yX8_brokenBy cX8_brokenBy 3 (some .int), Cond.methodLink RX8 125 yX8_claimOf, Cond.instanceMethod yX8_claimOf, Cond.selects RX8 yX8_claimOf yX8_claimOf, Cond.code yX8_claimOf cX8_claimOf 2 (some .int), Cond.fieldLink RX8 7 "FirstSignsModel" "told" "[I", Cond.methodLink RX8 153 yX8_breaks, Cond.instanceMethod yX8_breaks, Cond.selects RX8 yX8_breaks yX8_breaks, Cond.code yX8_breaks cX8_breaks 9 (some .boolean), Cond.fieldLink RX8 31 "FirstSignsModel" "one" "[I", Cond.fieldLink RX8 136 "FirstSignsModel" "oneMany" "I", Cond.fieldLink RX8 34 "FirstSignsModel" "other" "[I", Cond.fieldLink RX8 139 "FirstSignsModel" "otherMany" "I", Cond.methodLink RX8 46 yX8_digits, Cond.static yX8_digits, Cond.code yX8_digits cX8_digits 6 (some .int), Cond.constantLong RX8 44 (10), Cond.methodLink RX8 40 yX8_within, Cond.static yX8_within]
def wsX8_brokenNow_r2 : List Cond := [Cond.code yX8_within cX8_within 3 (some .boolean), Cond.methodLink RX8 68 yX8_ruleOf, Cond.instanceMethod yX8_ruleOf, Cond.selects RX8 yX8_ruleOf yX8_ruleOf, Cond.code yX8_ruleOf cX8_ruleOf 3 (some .int), Cond.methodLink RX8 75 yX8_digitAt, Cond.static yX8_digitAt, Cond.code yX8_digitAt cX8_digitAt 7 (some .int), Cond.methodLink RX8 128 yX8_lays, Cond.static yX8_lays, Cond.code yX8_lays cX8_lays 5 (some .int), Cond.methodLink RX8 132 yX8_reduces, Cond.instanceMethod yX8_reduces, Cond.selects RX8 yX8_reduces yX8_reduces, Cond.code yX8_reduces cX8_reduces 7 (some .int), Cond.fieldLink RX8 37 "FirstSignsModel" "scratch" "[I", Cond.methodLink RX8 149 yX8_areAlike, Cond.instanceMethod yX8_areAlike, Cond.selects RX8 yX8_areAlike yX8_areAlike, Cond.code yX8_areAlike cX8_areAlike 1 (some .boolean), Cond.methodLink RX8 142 yX8_alikeFrom, Cond.instanceMethod yX8_alikeFrom, Cond.selects RX8 yX8_alikeFrom yX8_alikeFrom, Cond.code yX8_alikeFrom cX8_alikeFrom 5 (some .int)]
def wsX8_brokenNow : List Cond := .code yX8_brokenNow cX8_brokenNow 3 (some .int) :: ((wsX8_brokenNow_r1 ++ wsX8_brokenNow_r2) ++ wsX80)
def wsX8_broken_r1 : List Cond := [Cond.methodLink RX8 40 yX8_within, Cond.static yX8_within, Cond.initialized RX8, Cond.code yX8_within cX8_within 3 (some .boolean), Cond.methodLink RX8 156 yX8_brokenBy, Cond.instanceMethod yX8_brokenBy, Cond.selects RX8 yX8_brokenBy yX8_brokenBy, Cond.code yX8_brokenBy cX8_brokenBy 3 (some .int), Cond.methodLink RX8 125 yX8_claimOf, Cond.instanceMethod yX8_claimOf, Cond.selects RX8 yX8_claimOf yX8_claimOf, Cond.code yX8_claimOf cX8_claimOf 2 (some .int), Cond.fieldLink RX8 7 "FirstSignsModel" "told" "[I", Cond.methodLink RX8 153 yX8_breaks, Cond.instanceMethod yX8_breaks, Cond.selects RX8 yX8_breaks yX8_breaks, Cond.code yX8_breaks cX8_breaks 9 (some .boolean), Cond.fieldLink RX8 31 "FirstSignsModel" "one" "[I", Cond.fieldLink RX8 136 "FirstSignsModel" "oneMany" "I", Cond.fieldLink RX8 34 "FirstSignsModel" "other" "[I", Cond.fieldLink RX8 139 "FirstSignsModel" "otherMany" "I", Cond.methodLink RX8 46 yX8_digits, Cond.static yX8_digits, Cond.code yX8_digits cX8_digits 6 (some .int)]
def wsX8_broken_r2 : List Cond := [Cond.constantLong RX8 44 (10), Cond.methodLink RX8 68 yX8_ruleOf, Cond.instanceMethod yX8_ruleOf, Cond.selects RX8 yX8_ruleOf yX8_ruleOf, Cond.code yX8_ruleOf cX8_ruleOf 3 (some .int), Cond.methodLink RX8 75 yX8_digitAt, Cond.static yX8_digitAt, Cond.code yX8_digitAt cX8_digitAt 7 (some .int), Cond.methodLink RX8 128 yX8_lays, Cond.static yX8_lays, Cond.code yX8_lays cX8_lays 5 (some .int), Cond.methodLink RX8 132 yX8_reduces, Cond.instanceMethod yX8_reduces, Cond.selects RX8 yX8_reduces yX8_reduces, Cond.code yX8_reduces cX8_reduces 7 (some .int), Cond.fieldLink RX8 37 "FirstSignsModel" "scratch" "[I", Cond.methodLink RX8 149 yX8_areAlike, Cond.instanceMethod yX8_areAlike, Cond.selects RX8 yX8_areAlike yX8_areAlike, Cond.code yX8_areAlike cX8_areAlike 1 (some .boolean), Cond.methodLink RX8 142 yX8_alikeFrom, Cond.instanceMethod yX8_alikeFrom, Cond.selects RX8 yX8_alikeFrom yX8_alikeFrom, Cond.code yX8_alikeFrom cX8_alikeFrom 5 (some .int)]
def wsX8_broken : List Cond := .code yX8_broken cX8_broken 4 (some .int) :: ((wsX8_broken_r1 ++ wsX8_broken_r2) ++ wsX80)
def wsX8_sizeOf : List Cond := .code yX8_sizeOf cX8_sizeOf 3 (some .int) :: ([])
def wsX8_settle_r1 : List Cond := [Cond.fieldLink RX8 7 "FirstSignsModel" "told" "[I", Cond.methodLink RX8 65 yX8_keeps, Cond.instanceMethod yX8_keeps, Cond.selects RX8 yX8_keeps yX8_keeps, Cond.initialized RX8, Cond.code yX8_keeps cX8_keeps 2 none, Cond.fieldLink RX8 50 "FirstSignsModel" "changes" "I", Cond.fieldLink RX8 13 "FirstSignsModel" "ahead" "[I", Cond.methodLink RX8 159 yX8_brokenNow, Cond.instanceMethod yX8_brokenNow, Cond.selects RX8 yX8_brokenNow yX8_brokenNow, Cond.code yX8_brokenNow cX8_brokenNow 3 (some .int), Cond.methodLink RX8 156 yX8_brokenBy, Cond.instanceMethod yX8_brokenBy, Cond.selects RX8 yX8_brokenBy yX8_brokenBy, Cond.code yX8_brokenBy cX8_brokenBy 3 (some .int), Cond.methodLink RX8 125 yX8_claimOf, Cond.instanceMethod yX8_claimOf, Cond.selects RX8 yX8_claimOf yX8_claimOf, Cond.code yX8_claimOf cX8_claimOf 2 (some .int), Cond.methodLink RX8 153 yX8_breaks, Cond.instanceMethod yX8_breaks, Cond.selects RX8 yX8_breaks yX8_breaks, Cond.code yX8_breaks cX8_breaks 9 (some .boolean)]
def wsX8_settle_r2 : List Cond := [Cond.fieldLink RX8 31 "FirstSignsModel" "one" "[I", Cond.fieldLink RX8 136 "FirstSignsModel" "oneMany" "I", Cond.fieldLink RX8 34 "FirstSignsModel" "other" "[I", Cond.fieldLink RX8 139 "FirstSignsModel" "otherMany" "I", Cond.methodLink RX8 46 yX8_digits, Cond.static yX8_digits, Cond.code yX8_digits cX8_digits 6 (some .int), Cond.constantLong RX8 44 (10), Cond.methodLink RX8 40 yX8_within, Cond.static yX8_within, Cond.code yX8_within cX8_within 3 (some .boolean), Cond.methodLink RX8 68 yX8_ruleOf, Cond.instanceMethod yX8_ruleOf, Cond.selects RX8 yX8_ruleOf yX8_ruleOf, Cond.code yX8_ruleOf cX8_ruleOf 3 (some .int), Cond.methodLink RX8 75 yX8_digitAt, Cond.static yX8_digitAt, Cond.code yX8_digitAt cX8_digitAt 7 (some .int), Cond.methodLink RX8 128 yX8_lays, Cond.static yX8_lays, Cond.code yX8_lays cX8_lays 5 (some .int), Cond.methodLink RX8 132 yX8_reduces, Cond.instanceMethod yX8_reduces, Cond.selects RX8 yX8_reduces yX8_reduces]
def wsX8_settle_r3 : List Cond := [Cond.code yX8_reduces cX8_reduces 7 (some .int), Cond.fieldLink RX8 37 "FirstSignsModel" "scratch" "[I", Cond.methodLink RX8 149 yX8_areAlike, Cond.instanceMethod yX8_areAlike, Cond.selects RX8 yX8_areAlike yX8_areAlike, Cond.code yX8_areAlike cX8_areAlike 1 (some .boolean), Cond.methodLink RX8 142 yX8_alikeFrom, Cond.instanceMethod yX8_alikeFrom, Cond.selects RX8 yX8_alikeFrom yX8_alikeFrom, Cond.code yX8_alikeFrom cX8_alikeFrom 5 (some .int), Cond.methodLink RX8 119 yX8_has, Cond.static yX8_has, Cond.code yX8_has cX8_has 2 (some .boolean), Cond.methodLink RX8 163 yX8_sizeOf, Cond.static yX8_sizeOf, Cond.code yX8_sizeOf cX8_sizeOf 3 (some .int)]
def wsX8_settle : List Cond := .code yX8_settle cX8_settle 4 (some .int) :: ((wsX8_settle_r1 ++ (wsX8_settle_r2 ++ wsX8_settle_r3)) ++ wsX80)
def wsX8_might_r1 : List Cond := [Cond.fieldLink RX8 7 "FirstSignsModel" "told" "[I", Cond.methodLink RX8 54 yX8_isSign, Cond.static yX8_isSign, Cond.initialized RX8, Cond.code yX8_isSign cX8_isSign 1 (some .boolean), Cond.methodLink RX8 40 yX8_within, Cond.static yX8_within, Cond.code yX8_within cX8_within 3 (some .boolean), Cond.methodLink RX8 125 yX8_claimOf, Cond.instanceMethod yX8_claimOf, Cond.selects RX8 yX8_claimOf yX8_claimOf, Cond.code yX8_claimOf cX8_claimOf 2 (some .int), Cond.methodLink RX8 122 yX8_isClaim, Cond.static yX8_isClaim, Cond.code yX8_isClaim cX8_isClaim 3 (some .boolean), Cond.methodLink RX8 46 yX8_digits, Cond.static yX8_digits, Cond.code yX8_digits cX8_digits 6 (some .int), Cond.constantLong RX8 44 (10), Cond.methodLink RX8 156 yX8_brokenBy, Cond.instanceMethod yX8_brokenBy, Cond.selects RX8 yX8_brokenBy yX8_brokenBy, Cond.code yX8_brokenBy cX8_brokenBy 3 (some .int), Cond.methodLink RX8 153 yX8_breaks]
def wsX8_might_r2 : List Cond := [Cond.instanceMethod yX8_breaks, Cond.selects RX8 yX8_breaks yX8_breaks, Cond.code yX8_breaks cX8_breaks 9 (some .boolean), Cond.fieldLink RX8 31 "FirstSignsModel" "one" "[I", Cond.fieldLink RX8 136 "FirstSignsModel" "oneMany" "I", Cond.fieldLink RX8 34 "FirstSignsModel" "other" "[I", Cond.fieldLink RX8 139 "FirstSignsModel" "otherMany" "I", Cond.methodLink RX8 68 yX8_ruleOf, Cond.instanceMethod yX8_ruleOf, Cond.selects RX8 yX8_ruleOf yX8_ruleOf, Cond.code yX8_ruleOf cX8_ruleOf 3 (some .int), Cond.methodLink RX8 75 yX8_digitAt, Cond.static yX8_digitAt, Cond.code yX8_digitAt cX8_digitAt 7 (some .int), Cond.methodLink RX8 128 yX8_lays, Cond.static yX8_lays, Cond.code yX8_lays cX8_lays 5 (some .int), Cond.methodLink RX8 132 yX8_reduces, Cond.instanceMethod yX8_reduces, Cond.selects RX8 yX8_reduces yX8_reduces, Cond.code yX8_reduces cX8_reduces 7 (some .int), Cond.fieldLink RX8 37 "FirstSignsModel" "scratch" "[I", Cond.methodLink RX8 149 yX8_areAlike, Cond.instanceMethod yX8_areAlike]
def wsX8_might_r3 : List Cond := [Cond.selects RX8 yX8_areAlike yX8_areAlike, Cond.code yX8_areAlike cX8_areAlike 1 (some .boolean), Cond.methodLink RX8 142 yX8_alikeFrom, Cond.instanceMethod yX8_alikeFrom, Cond.selects RX8 yX8_alikeFrom yX8_alikeFrom, Cond.code yX8_alikeFrom cX8_alikeFrom 5 (some .int)]
def wsX8_might : List Cond := .code yX8_might cX8_might 7 (some .int) :: ((wsX8_might_r1 ++ (wsX8_might_r2 ++ wsX8_might_r3)) ++ wsX80)
def wsX8_undo : List Cond := .code yX8_undo cX8_undo 3 (some .int) :: ([.fieldLink RX8 50 "FirstSignsModel" "changes" "I", .fieldLink RX8 7 "FirstSignsModel" "told" "[I", .fieldLink RX8 13 "FirstSignsModel" "ahead" "[I", .methodLink RX8 40 yX8_within, .static yX8_within, .initialized RX8, .code yX8_within cX8_within 3 (some .boolean)] ++ wsX80)
def wsX8_manyTold : List Cond := .code yX8_manyTold cX8_manyTold 5 (some .int) :: ([.fieldLink RX8 7 "FirstSignsModel" "told" "[I"] ++ wsX80)
def wsX8_manyWithWord : List Cond := .code yX8_manyWithWord cX8_manyWithWord 3 (some .int) :: ([.fieldLink RX8 19 "FirstSignsModel" "norms" "[I", .methodLink RX8 94 yX8_findNorms, .instanceMethod yX8_findNorms, .selects RX8 yX8_findNorms yX8_findNorms, .initialized RX8, .code yX8_findNorms cX8_findNorms 5 none, .fieldLink RX8 7 "FirstSignsModel" "told" "[I", .methodLink RX8 90 yX8_normOf, .instanceMethod yX8_normOf, .selects RX8 yX8_normOf yX8_normOf, .code yX8_normOf cX8_normOf 6 (some .int), .methodLink RX8 46 yX8_digits, .static yX8_digits, .code yX8_digits cX8_digits 6 (some .int), .constantLong RX8 44 (10), .methodLink RX8 40 yX8_within, .static yX8_within, .code yX8_within cX8_within 3 (some .boolean), .methodLink RX8 75 yX8_digitAt, .static yX8_digitAt, .code yX8_digitAt cX8_digitAt 7 (some .int)] ++ wsX80)
def wsX8_many_r1 : List Cond := [Cond.fieldLink RX8 50 "FirstSignsModel" "changes" "I", Cond.methodLink RX8 166 yX8_manyTold, Cond.instanceMethod yX8_manyTold, Cond.selects RX8 yX8_manyTold yX8_manyTold, Cond.initialized RX8, Cond.code yX8_manyTold cX8_manyTold 5 (some .int), Cond.fieldLink RX8 7 "FirstSignsModel" "told" "[I", Cond.methodLink RX8 169 yX8_manyWithWord, Cond.instanceMethod yX8_manyWithWord, Cond.selects RX8 yX8_manyWithWord yX8_manyWithWord, Cond.code yX8_manyWithWord cX8_manyWithWord 3 (some .int), Cond.fieldLink RX8 19 "FirstSignsModel" "norms" "[I", Cond.methodLink RX8 94 yX8_findNorms, Cond.instanceMethod yX8_findNorms, Cond.selects RX8 yX8_findNorms yX8_findNorms, Cond.code yX8_findNorms cX8_findNorms 5 none, Cond.methodLink RX8 90 yX8_normOf, Cond.instanceMethod yX8_normOf, Cond.selects RX8 yX8_normOf yX8_normOf, Cond.code yX8_normOf cX8_normOf 6 (some .int), Cond.methodLink RX8 46 yX8_digits, Cond.static yX8_digits, Cond.code yX8_digits cX8_digits 6 (some .int), Cond.constantLong RX8 44 (10)]
def wsX8_many_r2 : List Cond := [Cond.methodLink RX8 40 yX8_within, Cond.static yX8_within, Cond.code yX8_within cX8_within 3 (some .boolean), Cond.methodLink RX8 75 yX8_digitAt, Cond.static yX8_digitAt, Cond.code yX8_digitAt cX8_digitAt 7 (some .int), Cond.methodLink RX8 159 yX8_brokenNow, Cond.instanceMethod yX8_brokenNow, Cond.selects RX8 yX8_brokenNow yX8_brokenNow, Cond.code yX8_brokenNow cX8_brokenNow 3 (some .int), Cond.methodLink RX8 156 yX8_brokenBy, Cond.instanceMethod yX8_brokenBy, Cond.selects RX8 yX8_brokenBy yX8_brokenBy, Cond.code yX8_brokenBy cX8_brokenBy 3 (some .int), Cond.methodLink RX8 125 yX8_claimOf, Cond.instanceMethod yX8_claimOf, Cond.selects RX8 yX8_claimOf yX8_claimOf, Cond.code yX8_claimOf cX8_claimOf 2 (some .int), Cond.methodLink RX8 153 yX8_breaks, Cond.instanceMethod yX8_breaks, Cond.selects RX8 yX8_breaks yX8_breaks, Cond.code yX8_breaks cX8_breaks 9 (some .boolean), Cond.fieldLink RX8 31 "FirstSignsModel" "one" "[I", Cond.fieldLink RX8 136 "FirstSignsModel" "oneMany" "I"]
def wsX8_many_r3 : List Cond := [Cond.fieldLink RX8 34 "FirstSignsModel" "other" "[I", Cond.fieldLink RX8 139 "FirstSignsModel" "otherMany" "I", Cond.methodLink RX8 68 yX8_ruleOf, Cond.instanceMethod yX8_ruleOf, Cond.selects RX8 yX8_ruleOf yX8_ruleOf, Cond.code yX8_ruleOf cX8_ruleOf 3 (some .int), Cond.methodLink RX8 128 yX8_lays, Cond.static yX8_lays, Cond.code yX8_lays cX8_lays 5 (some .int), Cond.methodLink RX8 132 yX8_reduces, Cond.instanceMethod yX8_reduces, Cond.selects RX8 yX8_reduces yX8_reduces, Cond.code yX8_reduces cX8_reduces 7 (some .int), Cond.fieldLink RX8 37 "FirstSignsModel" "scratch" "[I", Cond.methodLink RX8 149 yX8_areAlike, Cond.instanceMethod yX8_areAlike, Cond.selects RX8 yX8_areAlike yX8_areAlike, Cond.code yX8_areAlike cX8_areAlike 1 (some .boolean), Cond.methodLink RX8 142 yX8_alikeFrom, Cond.instanceMethod yX8_alikeFrom, Cond.selects RX8 yX8_alikeFrom yX8_alikeFrom, Cond.code yX8_alikeFrom cX8_alikeFrom 5 (some .int), Cond.methodLink RX8 163 yX8_sizeOf, Cond.static yX8_sizeOf]
def wsX8_many_r4 : List Cond := [Cond.code yX8_sizeOf cX8_sizeOf 3 (some .int)]
def wsX8_many : List Cond := .code yX8_many cX8_many 2 (some .int) :: ((wsX8_many_r1 ++ (wsX8_many_r2 ++ (wsX8_many_r3 ++ wsX8_many_r4))) ++ wsX80)
def wsJ9_max_7cf53 : List Cond := .code yJ9_max_7cf53 cJ9_max_7cf53 2 (some .int) :: ([])
def wsJ9_min_7cf53 : List Cond := .code yJ9_min_7cf53 cJ9_min_7cf53 2 (some .int) :: ([])
abbrev vwCl : List vw_C := [(RX0, TX0, 2), (RX1, TX1, 1), (RX2, TX2, 1), (RX3, TX3, 3), (RX4, TX4, 2), (RX5, TX5, 2), (RX6, TX6, 2), (RX7, TX7, 8), (RX8, TX8, 14)]
end
section
theorem dX0_init_0 : decode cX0_init 0 = .ok (.aload_n 0, 1) := by decide +kernel
theorem dX0_init_1 : decode cX0_init 1 = .ok (.invokespecial 3, 3) := by decide +kernel
theorem dX0_init_4 : decode cX0_init 4 = .ok (.aload_n 0, 1) := by decide +kernel
theorem dX0_init_5 : decode cX0_init 5 = .ok (.bipush 6, 2) := by decide +kernel
theorem dX0_init_7 : decode cX0_init 7 = .ok (.bipush 13, 2) := by decide +kernel
theorem dX0_init_9 : decode cX0_init 9 = .ok (.multianewarray 9 2, 4) := by decide +kernel
theorem dX0_init_13 : decode cX0_init 13 = .ok (.putfield 11, 3) := by decide +kernel
theorem dX0_init_16 : decode cX0_init 16 = .ok (.aload_n 0, 1) := by decide +kernel
theorem dX0_init_17 : decode cX0_init 17 = .ok (.bipush 13, 2) := by decide +kernel
theorem dX0_init_19 : decode cX0_init 19 = .ok (.newarray .int, 2) := by decide +kernel
theorem dX0_init_21 : decode cX0_init 21 = .ok (.putfield 16, 3) := by decide +kernel
theorem dX0_init_24 : decode cX0_init 24 = .ok (.return_, 1) := by decide +kernel
set_option maxRecDepth 20000 in
theorem ggX0_find_X0_byRules : GoodIn wsX0_find wsX0_byRules := goodIn_r _ [6, 7, 8, 9, 10, 11, 12, 13, 14, 15, 16, 17, 18, 19, 20, 5, 21, 22, 23, 24, 25, 26, 27, 28, 29, 30, 1, 33, 34, 31, 32] (by decide +kernel) (by decide +kernel)
set_option maxRecDepth 20000 in
theorem gX0_find_X0_byRules : GoodIn wsX0_find (wsV RX0 20 RX0 yX0_byRules wsX0_byRules) := goodIn_app (goodIn_of _ (by decide +kernel)) ggX0_find_X0_byRules
theorem dX0_find_0 : decode cX0_find 0 = .ok (.iconst 0, 1) := by decide +kernel
theorem dX0_find_1 : decode cX0_find 1 = .ok (.istore_n 3, 1) := by decide +kernel
theorem dX0_find_2 : decode cX0_find 2 = .ok (.iload_n 3, 1) := by decide +kernel
theorem dX0_find_3 : decode cX0_find 3 = .ok (.iload_n 2, 1) := by decide +kernel
theorem dX0_find_4 : decode cX0_find 4 = .ok (.if_icmp .gt 50, 3) := by decide +kernel
theorem dX0_find_7 : decode cX0_find 7 = .ok (.iload_n 3, 1) := by decide +kernel
theorem dX0_find_8 : decode cX0_find 8 = .ok (.bipush 12, 2) := by decide +kernel
theorem dX0_find_10 : decode cX0_find 10 = .ok (.if_icmp .gt 44, 3) := by decide +kernel
theorem dX0_find_13 : decode cX0_find 13 = .ok (.iconst 0, 1) := by decide +kernel
theorem dX0_find_14 : decode cX0_find 14 = .ok (.istore 4, 2) := by decide +kernel
theorem dX0_find_16 : decode cX0_find 16 = .ok (.iload 4, 2) := by decide +kernel
theorem dX0_find_18 : decode cX0_find 18 = .ok (.bipush 6, 2) := by decide +kernel
theorem dX0_find_20 : decode cX0_find 20 = .ok (.if_icmp .ge 28, 3) := by decide +kernel
theorem dX0_find_23 : decode cX0_find 23 = .ok (.aload_n 0, 1) := by decide +kernel
theorem dX0_find_24 : decode cX0_find 24 = .ok (.getfield 11, 3) := by decide +kernel
theorem dX0_find_27 : decode cX0_find 27 = .ok (.iload 4, 2) := by decide +kernel
theorem dX0_find_29 : decode cX0_find 29 = .ok (.aaload, 1) := by decide +kernel
theorem dX0_find_30 : decode cX0_find 30 = .ok (.iload_n 3, 1) := by decide +kernel
theorem dX0_find_31 : decode cX0_find 31 = .ok (.aload_n 0, 1) := by decide +kernel
theorem dX0_find_32 : decode cX0_find 32 = .ok (.aload_n 1, 1) := by decide +kernel
theorem dX0_find_33 : decode cX0_find 33 = .ok (.iload 4, 2) := by decide +kernel
theorem dX0_find_35 : decode cX0_find 35 = .ok (.iload_n 3, 1) := by decide +kernel
theorem dX0_find_36 : decode cX0_find 36 = .ok (.iconst 1, 1) := by decide +kernel
theorem dX0_find_37 : decode cX0_find 37 = .ok (.isub, 1) := by decide +kernel
theorem dX0_find_38 : decode cX0_find 38 = .ok (.invokevirtual 20, 3) := by decide +kernel
theorem dX0_find_41 : decode cX0_find 41 = .ok (.iastore, 1) := by decide +kernel
theorem dX0_find_42 : decode cX0_find 42 = .ok (.iinc 4 1, 3) := by decide +kernel
theorem dX0_find_45 : decode cX0_find 45 = .ok (.goto (-29), 3) := by decide +kernel
theorem dX0_find_48 : decode cX0_find 48 = .ok (.iinc 3 1, 3) := by decide +kernel
theorem dX0_find_51 : decode cX0_find 51 = .ok (.goto (-49), 3) := by decide +kernel
theorem dX0_find_54 : decode cX0_find 54 = .ok (.return_, 1) := by decide +kernel
set_option maxRecDepth 20000 in
theorem ggX0_ofRow_J7_fill_53178 : GoodIn wsX0_ofRow wsJ7_fill_53178 := goodIn_r _ [5] (by decide +kernel) (by decide +kernel)
set_option maxRecDepth 20000 in
theorem gX0_ofRow_J7_fill_53178 : GoodIn wsX0_ofRow (va_wsS RX0 24 yJ7_fill_53178 wsJ7_fill_53178) := goodIn_app (goodIn_of _ (by decide +kernel)) ggX0_ofRow_J7_fill_53178
set_option maxRecDepth 20000 in
theorem ggX0_ofRow_X0_addSign : GoodIn wsX0_ofRow wsX0_addSign := goodIn_r _ [10, 11, 1, 12, 13, 14, 15, 16] (by decide +kernel) (by decide +kernel)
set_option maxRecDepth 20000 in
theorem gX0_ofRow_X0_addSign : GoodIn wsX0_ofRow (wsV RX0 30 RX0 yX0_addSign wsX0_addSign) := goodIn_app (goodIn_of _ (by decide +kernel)) ggX0_ofRow_X0_addSign
theorem dX0_ofRow_0 : decode cX0_ofRow 0 = .ok (.iload_n 2, 1) := by decide +kernel
theorem dX0_ofRow_1 : decode cX0_ofRow 1 = .ok (.ifCond .lt 9, 3) := by decide +kernel
theorem dX0_ofRow_4 : decode cX0_ofRow 4 = .ok (.iload_n 2, 1) := by decide +kernel
theorem dX0_ofRow_5 : decode cX0_ofRow 5 = .ok (.bipush 12, 2) := by decide +kernel
theorem dX0_ofRow_7 : decode cX0_ofRow 7 = .ok (.if_icmp .le 5, 3) := by decide +kernel
theorem dX0_ofRow_10 : decode cX0_ofRow 10 = .ok (.iconst 0, 1) := by decide +kernel
theorem dX0_ofRow_11 : decode cX0_ofRow 11 = .ok (.ireturn, 1) := by decide +kernel
theorem dX0_ofRow_12 : decode cX0_ofRow 12 = .ok (.aload_n 0, 1) := by decide +kernel
theorem dX0_ofRow_13 : decode cX0_ofRow 13 = .ok (.getfield 16, 3) := by decide +kernel
theorem dX0_ofRow_16 : decode cX0_ofRow 16 = .ok (.iconst 0, 1) := by decide +kernel
theorem dX0_ofRow_17 : decode cX0_ofRow 17 = .ok (.invokestatic 24, 3) := by decide +kernel
theorem dX0_ofRow_20 : decode cX0_ofRow 20 = .ok (.aload_n 0, 1) := by decide +kernel
theorem dX0_ofRow_21 : decode cX0_ofRow 21 = .ok (.getfield 16, 3) := by decide +kernel
theorem dX0_ofRow_24 : decode cX0_ofRow 24 = .ok (.iconst 0, 1) := by decide +kernel
theorem dX0_ofRow_25 : decode cX0_ofRow 25 = .ok (.iconst 1, 1) := by decide +kernel
theorem dX0_ofRow_26 : decode cX0_ofRow 26 = .ok (.iastore, 1) := by decide +kernel
theorem dX0_ofRow_27 : decode cX0_ofRow 27 = .ok (.iload_n 1, 1) := by decide +kernel
theorem dX0_ofRow_28 : decode cX0_ofRow 28 = .ok (.istore_n 3, 1) := by decide +kernel
theorem dX0_ofRow_29 : decode cX0_ofRow 29 = .ok (.iload_n 3, 1) := by decide +kernel
theorem dX0_ofRow_30 : decode cX0_ofRow 30 = .ok (.ifCond .le 22, 3) := by decide +kernel
theorem dX0_ofRow_33 : decode cX0_ofRow 33 = .ok (.aload_n 0, 1) := by decide +kernel
theorem dX0_ofRow_34 : decode cX0_ofRow 34 = .ok (.iload_n 3, 1) := by decide +kernel
theorem dX0_ofRow_35 : decode cX0_ofRow 35 = .ok (.bipush 10, 2) := by decide +kernel
theorem dX0_ofRow_37 : decode cX0_ofRow 37 = .ok (.irem, 1) := by decide +kernel
theorem dX0_ofRow_38 : decode cX0_ofRow 38 = .ok (.iconst 1, 1) := by decide +kernel
theorem dX0_ofRow_39 : decode cX0_ofRow 39 = .ok (.isub, 1) := by decide +kernel
theorem dX0_ofRow_40 : decode cX0_ofRow 40 = .ok (.iload_n 2, 1) := by decide +kernel
theorem dX0_ofRow_41 : decode cX0_ofRow 41 = .ok (.invokevirtual 30, 3) := by decide +kernel
theorem dX0_ofRow_44 : decode cX0_ofRow 44 = .ok (.iload_n 3, 1) := by decide +kernel
theorem dX0_ofRow_45 : decode cX0_ofRow 45 = .ok (.bipush 10, 2) := by decide +kernel
theorem dX0_ofRow_47 : decode cX0_ofRow 47 = .ok (.idiv, 1) := by decide +kernel
theorem dX0_ofRow_48 : decode cX0_ofRow 48 = .ok (.istore_n 3, 1) := by decide +kernel
theorem dX0_ofRow_49 : decode cX0_ofRow 49 = .ok (.goto (-20), 3) := by decide +kernel
theorem dX0_ofRow_52 : decode cX0_ofRow 52 = .ok (.aload_n 0, 1) := by decide +kernel
theorem dX0_ofRow_53 : decode cX0_ofRow 53 = .ok (.getfield 16, 3) := by decide +kernel
theorem dX0_ofRow_56 : decode cX0_ofRow 56 = .ok (.iload_n 2, 1) := by decide +kernel
theorem dX0_ofRow_57 : decode cX0_ofRow 57 = .ok (.iaload, 1) := by decide +kernel
theorem dX0_ofRow_58 : decode cX0_ofRow 58 = .ok (.ireturn, 1) := by decide +kernel
set_option maxRecDepth 20000 in
theorem ggX0_byRules_X6_ruleOf : GoodIn wsX0_byRules wsX6_ruleOf := goodIn_r _ [5, 6, 7, 8, 9, 10, 11, 27, 28] (by decide +kernel) (by decide +kernel)
set_option maxRecDepth 20000 in
theorem gX0_byRules_X6_ruleOf : GoodIn wsX0_byRules (wsV RX0 34 RX6 yX6_ruleOf wsX6_ruleOf) := goodIn_app (goodIn_of _ (by decide +kernel)) ggX0_byRules_X6_ruleOf
set_option maxRecDepth 20000 in
theorem ggX0_byRules_X0_ofRow : GoodIn wsX0_byRules wsX0_ofRow := goodIn_r _ [16, 17, 18, 19, 20, 21, 22, 23, 24, 15, 25, 26, 7, 8, 9, 29, 30] (by decide +kernel) (by decide +kernel)
set_option maxRecDepth 20000 in
theorem gX0_byRules_X0_ofRow : GoodIn wsX0_byRules (wsV RX0 40 RX0 yX0_ofRow wsX0_ofRow) := goodIn_app (goodIn_of _ (by decide +kernel)) ggX0_byRules_X0_ofRow
theorem dX0_byRules_0 : decode cX0_byRules 0 = .ok (.iconst 0, 1) := by decide +kernel
theorem dX0_byRules_1 : decode cX0_byRules 1 = .ok (.istore 4, 2) := by decide +kernel
theorem dX0_byRules_3 : decode cX0_byRules 3 = .ok (.iconst 0, 1) := by decide +kernel
theorem dX0_byRules_4 : decode cX0_byRules 4 = .ok (.istore 5, 2) := by decide +kernel
theorem dX0_byRules_6 : decode cX0_byRules 6 = .ok (.iload 5, 2) := by decide +kernel
theorem dX0_byRules_8 : decode cX0_byRules 8 = .ok (.iconst 3, 1) := by decide +kernel
theorem dX0_byRules_9 : decode cX0_byRules 9 = .ok (.if_icmp .ge 37, 3) := by decide +kernel
theorem dX0_byRules_12 : decode cX0_byRules 12 = .ok (.aload_n 1, 1) := by decide +kernel
theorem dX0_byRules_13 : decode cX0_byRules 13 = .ok (.iload_n 2, 1) := by decide +kernel
theorem dX0_byRules_14 : decode cX0_byRules 14 = .ok (.iload 5, 2) := by decide +kernel
theorem dX0_byRules_16 : decode cX0_byRules 16 = .ok (.invokevirtual 34, 3) := by decide +kernel
theorem dX0_byRules_19 : decode cX0_byRules 19 = .ok (.istore 6, 2) := by decide +kernel
theorem dX0_byRules_21 : decode cX0_byRules 21 = .ok (.iload 6, 2) := by decide +kernel
theorem dX0_byRules_23 : decode cX0_byRules 23 = .ok (.bipush (-9), 2) := by decide +kernel
theorem dX0_byRules_25 : decode cX0_byRules 25 = .ok (.if_icmp .eq 15, 3) := by decide +kernel
theorem dX0_byRules_28 : decode cX0_byRules 28 = .ok (.iload 4, 2) := by decide +kernel
theorem dX0_byRules_30 : decode cX0_byRules 30 = .ok (.aload_n 0, 1) := by decide +kernel
theorem dX0_byRules_31 : decode cX0_byRules 31 = .ok (.iload 6, 2) := by decide +kernel
theorem dX0_byRules_33 : decode cX0_byRules 33 = .ok (.iload_n 3, 1) := by decide +kernel
theorem dX0_byRules_34 : decode cX0_byRules 34 = .ok (.invokevirtual 40, 3) := by decide +kernel
theorem dX0_byRules_37 : decode cX0_byRules 37 = .ok (.iadd, 1) := by decide +kernel
theorem dX0_byRules_38 : decode cX0_byRules 38 = .ok (.istore 4, 2) := by decide +kernel
theorem dX0_byRules_40 : decode cX0_byRules 40 = .ok (.iinc 5 1, 3) := by decide +kernel
theorem dX0_byRules_43 : decode cX0_byRules 43 = .ok (.goto (-37), 3) := by decide +kernel
theorem dX0_byRules_46 : decode cX0_byRules 46 = .ok (.iload 4, 2) := by decide +kernel
theorem dX0_byRules_48 : decode cX0_byRules 48 = .ok (.ireturn, 1) := by decide +kernel
set_option maxRecDepth 20000 in
theorem ggX0_addSign_X7_isSign : GoodIn wsX0_addSign wsX7_isSign := goodIn_r _ [5] (by decide +kernel) (by decide +kernel)
set_option maxRecDepth 20000 in
theorem gX0_addSign_X7_isSign_n43 : GoodIn wsX0_addSign (wsX7_isSign) := ggX0_addSign_X7_isSign
theorem dX0_addSign_0 : decode cX0_addSign 0 = .ok (.iload_n 2, 1) := by decide +kernel
theorem dX0_addSign_1 : decode cX0_addSign 1 = .ok (.istore_n 3, 1) := by decide +kernel
theorem dX0_addSign_2 : decode cX0_addSign 2 = .ok (.iload_n 3, 1) := by decide +kernel
theorem dX0_addSign_3 : decode cX0_addSign 3 = .ok (.ifCond .lt 66, 3) := by decide +kernel
theorem dX0_addSign_6 : decode cX0_addSign 6 = .ok (.iconst 0, 1) := by decide +kernel
theorem dX0_addSign_7 : decode cX0_addSign 7 = .ok (.istore 4, 2) := by decide +kernel
theorem dX0_addSign_9 : decode cX0_addSign 9 = .ok (.iconst 1, 1) := by decide +kernel
theorem dX0_addSign_10 : decode cX0_addSign 10 = .ok (.istore 5, 2) := by decide +kernel
theorem dX0_addSign_12 : decode cX0_addSign 12 = .ok (.iload 5, 2) := by decide +kernel
theorem dX0_addSign_14 : decode cX0_addSign 14 = .ok (.iload_n 3, 1) := by decide +kernel
theorem dX0_addSign_15 : decode cX0_addSign 15 = .ok (.if_icmp .gt 40, 3) := by decide +kernel
theorem dX0_addSign_18 : decode cX0_addSign 18 = .ok (.iload_n 1, 1) := by decide +kernel
theorem dX0_addSign_19 : decode cX0_addSign 19 = .ok (.invokestatic 43, 3) := by decide +kernel
theorem dX0_addSign_22 : decode cX0_addSign 22 = .ok (.ifCond .eq 33, 3) := by decide +kernel
theorem dX0_addSign_25 : decode cX0_addSign 25 = .ok (.iload 4, 2) := by decide +kernel
theorem dX0_addSign_27 : decode cX0_addSign 27 = .ok (.aload_n 0, 1) := by decide +kernel
theorem dX0_addSign_28 : decode cX0_addSign 28 = .ok (.getfield 11, 3) := by decide +kernel
theorem dX0_addSign_31 : decode cX0_addSign 31 = .ok (.iload_n 1, 1) := by decide +kernel
theorem dX0_addSign_32 : decode cX0_addSign 32 = .ok (.aaload, 1) := by decide +kernel
theorem dX0_addSign_33 : decode cX0_addSign 33 = .ok (.iload 5, 2) := by decide +kernel
theorem dX0_addSign_35 : decode cX0_addSign 35 = .ok (.iaload, 1) := by decide +kernel
theorem dX0_addSign_36 : decode cX0_addSign 36 = .ok (.aload_n 0, 1) := by decide +kernel
theorem dX0_addSign_37 : decode cX0_addSign 37 = .ok (.getfield 16, 3) := by decide +kernel
theorem dX0_addSign_40 : decode cX0_addSign 40 = .ok (.iload_n 3, 1) := by decide +kernel
theorem dX0_addSign_41 : decode cX0_addSign 41 = .ok (.iload 5, 2) := by decide +kernel
theorem dX0_addSign_43 : decode cX0_addSign 43 = .ok (.isub, 1) := by decide +kernel
theorem dX0_addSign_44 : decode cX0_addSign 44 = .ok (.iaload, 1) := by decide +kernel
theorem dX0_addSign_45 : decode cX0_addSign 45 = .ok (.imul, 1) := by decide +kernel
theorem dX0_addSign_46 : decode cX0_addSign 46 = .ok (.iadd, 1) := by decide +kernel
theorem dX0_addSign_47 : decode cX0_addSign 47 = .ok (.istore 4, 2) := by decide +kernel
theorem dX0_addSign_49 : decode cX0_addSign 49 = .ok (.iinc 5 1, 3) := by decide +kernel
theorem dX0_addSign_52 : decode cX0_addSign 52 = .ok (.goto (-40), 3) := by decide +kernel
theorem dX0_addSign_55 : decode cX0_addSign 55 = .ok (.aload_n 0, 1) := by decide +kernel
theorem dX0_addSign_56 : decode cX0_addSign 56 = .ok (.getfield 16, 3) := by decide +kernel
theorem dX0_addSign_59 : decode cX0_addSign 59 = .ok (.iload_n 3, 1) := by decide +kernel
theorem dX0_addSign_60 : decode cX0_addSign 60 = .ok (.iload 4, 2) := by decide +kernel
theorem dX0_addSign_62 : decode cX0_addSign 62 = .ok (.iastore, 1) := by decide +kernel
theorem dX0_addSign_63 : decode cX0_addSign 63 = .ok (.iinc 3 (-1), 3) := by decide +kernel
theorem dX0_addSign_66 : decode cX0_addSign 66 = .ok (.goto (-64), 3) := by decide +kernel
theorem dX0_addSign_69 : decode cX0_addSign 69 = .ok (.return_, 1) := by decide +kernel
set_option maxRecDepth 20000 in
theorem ggX1_init_X5_init : GoodIn wsX1_init wsX5_init := goodIn_r _ [10, 11, 2, 3, 12, 13, 14, 15, 16, 17, 19, 20] (by decide +kernel) (by decide +kernel)
set_option maxRecDepth 20000 in
theorem gX1_init_X5_init : GoodIn wsX1_init (wsX5_init) := ggX1_init_X5_init
theorem dX1_init_0 : decode cX1_init 0 = .ok (.aload_n 0, 1) := by decide +kernel
theorem dX1_init_1 : decode cX1_init 1 = .ok (.invokespecial 3, 3) := by decide +kernel
theorem dX1_init_4 : decode cX1_init 4 = .ok (.aload_n 0, 1) := by decide +kernel
theorem dX1_init_5 : decode cX1_init 5 = .ok (.bipush 6, 2) := by decide +kernel
theorem dX1_init_7 : decode cX1_init 7 = .ok (.anewarray 9, 3) := by decide +kernel
theorem dX1_init_10 : decode cX1_init 10 = .ok (.putfield 11, 3) := by decide +kernel
theorem dX1_init_13 : decode cX1_init 13 = .ok (.iconst 0, 1) := by decide +kernel
theorem dX1_init_14 : decode cX1_init 14 = .ok (.istore_n 1, 1) := by decide +kernel
theorem dX1_init_15 : decode cX1_init 15 = .ok (.iload_n 1, 1) := by decide +kernel
theorem dX1_init_16 : decode cX1_init 16 = .ok (.bipush 6, 2) := by decide +kernel
theorem dX1_init_18 : decode cX1_init 18 = .ok (.if_icmp .ge 25, 3) := by decide +kernel
theorem dX1_init_21 : decode cX1_init 21 = .ok (.aload_n 0, 1) := by decide +kernel
theorem dX1_init_22 : decode cX1_init 22 = .ok (.getfield 11, 3) := by decide +kernel
theorem dX1_init_25 : decode cX1_init 25 = .ok (.iload_n 1, 1) := by decide +kernel
theorem dX1_init_26 : decode cX1_init 26 = .ok (.new 9, 3) := by decide +kernel
theorem dX1_init_29 : decode cX1_init 29 = .ok (.dup, 1) := by decide +kernel
theorem dX1_init_30 : decode cX1_init 30 = .ok (.sipush 243, 3) := by decide +kernel
theorem dX1_init_33 : decode cX1_init 33 = .ok (.invokespecial 17, 3) := by decide +kernel
theorem dX1_init_36 : decode cX1_init 36 = .ok (.aastore, 1) := by decide +kernel
theorem dX1_init_37 : decode cX1_init 37 = .ok (.iinc 1 1, 3) := by decide +kernel
theorem dX1_init_40 : decode cX1_init 40 = .ok (.goto (-25), 3) := by decide +kernel
theorem dX1_init_43 : decode cX1_init 43 = .ok (.return_, 1) := by decide +kernel
set_option maxRecDepth 20000 in
theorem ggX1_find_X6_claimOf : GoodIn wsX1_find wsX6_claimOf := goodIn_r _ [6, 7, 8, 9, 10, 36, 37] (by decide +kernel) (by decide +kernel)
set_option maxRecDepth 20000 in
theorem gX1_find_X6_claimOf : GoodIn wsX1_find (wsV RX1 20 RX6 yX6_claimOf wsX6_claimOf) := goodIn_app (goodIn_of _ (by decide +kernel)) ggX1_find_X6_claimOf
set_option maxRecDepth 20000 in
theorem ggX1_find_X5_clear : GoodIn wsX1_find wsX5_clear := goodIn_r _ [15, 16, 38, 39] (by decide +kernel) (by decide +kernel)
set_option maxRecDepth 20000 in
theorem gX1_find_X5_clear : GoodIn wsX1_find (wsV RX1 26 RX5 yX5_clear wsX5_clear) := goodIn_app (goodIn_of _ (by decide +kernel)) ggX1_find_X5_clear
set_option maxRecDepth 20000 in
theorem ggX1_find_X5_putFirst : GoodIn wsX1_find wsX5_putFirst := goodIn_r _ [20, 16, 21, 38, 39] (by decide +kernel) (by decide +kernel)
set_option maxRecDepth 20000 in
theorem gX1_find_X5_putFirst : GoodIn wsX1_find (wsV RX1 29 RX5 yX5_putFirst wsX5_putFirst) := goodIn_app (goodIn_of _ (by decide +kernel)) ggX1_find_X5_putFirst
set_option maxRecDepth 20000 in
theorem ggX1_find_X1_putAhead : GoodIn wsX1_find wsX1_putAhead := goodIn_r _ [26, 1, 8, 9, 10, 27, 28, 29, 14, 30, 16, 21, 31, 32, 33, 34, 35, 38, 39] (by decide +kernel) (by decide +kernel)
set_option maxRecDepth 20000 in
theorem gX1_find_X1_putAhead : GoodIn wsX1_find (wsV RX1 32 RX1 yX1_putAhead wsX1_putAhead) := goodIn_app (goodIn_of _ (by decide +kernel)) ggX1_find_X1_putAhead
theorem dX1_find_0 : decode cX1_find 0 = .ok (.iconst 0, 1) := by decide +kernel
theorem dX1_find_1 : decode cX1_find 1 = .ok (.istore_n 2, 1) := by decide +kernel
theorem dX1_find_2 : decode cX1_find 2 = .ok (.iload_n 2, 1) := by decide +kernel
theorem dX1_find_3 : decode cX1_find 3 = .ok (.bipush 6, 2) := by decide +kernel
theorem dX1_find_5 : decode cX1_find 5 = .ok (.if_icmp .ge 49, 3) := by decide +kernel
theorem dX1_find_8 : decode cX1_find 8 = .ok (.aload_n 0, 1) := by decide +kernel
theorem dX1_find_9 : decode cX1_find 9 = .ok (.getfield 11, 3) := by decide +kernel
theorem dX1_find_12 : decode cX1_find 12 = .ok (.iload_n 2, 1) := by decide +kernel
theorem dX1_find_13 : decode cX1_find 13 = .ok (.aaload, 1) := by decide +kernel
theorem dX1_find_14 : decode cX1_find 14 = .ok (.astore_n 3, 1) := by decide +kernel
theorem dX1_find_15 : decode cX1_find 15 = .ok (.aload_n 1, 1) := by decide +kernel
theorem dX1_find_16 : decode cX1_find 16 = .ok (.iload_n 2, 1) := by decide +kernel
theorem dX1_find_17 : decode cX1_find 17 = .ok (.invokevirtual 20, 3) := by decide +kernel
theorem dX1_find_20 : decode cX1_find 20 = .ok (.istore 4, 2) := by decide +kernel
theorem dX1_find_22 : decode cX1_find 22 = .ok (.aload_n 3, 1) := by decide +kernel
theorem dX1_find_23 : decode cX1_find 23 = .ok (.invokevirtual 26, 3) := by decide +kernel
theorem dX1_find_26 : decode cX1_find 26 = .ok (.iload 4, 2) := by decide +kernel
theorem dX1_find_28 : decode cX1_find 28 = .ok (.bipush (-9), 2) := by decide +kernel
theorem dX1_find_30 : decode cX1_find 30 = .ok (.if_icmp .ne 11, 3) := by decide +kernel
theorem dX1_find_33 : decode cX1_find 33 = .ok (.aload_n 3, 1) := by decide +kernel
theorem dX1_find_34 : decode cX1_find 34 = .ok (.iload_n 2, 1) := by decide +kernel
theorem dX1_find_35 : decode cX1_find 35 = .ok (.invokevirtual 29, 3) := by decide +kernel
theorem dX1_find_38 : decode cX1_find 38 = .ok (.goto 10, 3) := by decide +kernel
theorem dX1_find_41 : decode cX1_find 41 = .ok (.aload_n 0, 1) := by decide +kernel
theorem dX1_find_42 : decode cX1_find 42 = .ok (.aload_n 3, 1) := by decide +kernel
theorem dX1_find_43 : decode cX1_find 43 = .ok (.iload 4, 2) := by decide +kernel
theorem dX1_find_45 : decode cX1_find 45 = .ok (.invokevirtual 32, 3) := by decide +kernel
theorem dX1_find_48 : decode cX1_find 48 = .ok (.iinc 2 1, 3) := by decide +kernel
theorem dX1_find_51 : decode cX1_find 51 = .ok (.goto (-49), 3) := by decide +kernel
theorem dX1_find_54 : decode cX1_find 54 = .ok (.return_, 1) := by decide +kernel
set_option maxRecDepth 20000 in
theorem ggX1_putAhead_X7_isSign : GoodIn wsX1_putAhead wsX7_isSign := goodIn_r _ [4] (by decide +kernel) (by decide +kernel)
set_option maxRecDepth 20000 in
theorem gX1_putAhead_X7_isSign_n36 : GoodIn wsX1_putAhead (wsX7_isSign) := ggX1_putAhead_X7_isSign
set_option maxRecDepth 20000 in
theorem ggX1_putAhead_X5_putAllAhead : GoodIn wsX1_putAhead wsX5_putAllAhead := goodIn_r _ [9, 10, 11, 12, 13, 14, 15, 17, 18] (by decide +kernel) (by decide +kernel)
set_option maxRecDepth 20000 in
theorem gX1_putAhead_X5_putAllAhead : GoodIn wsX1_putAhead (wsV RX1 40 RX5 yX5_putAllAhead wsX5_putAllAhead) := goodIn_app (goodIn_of _ (by decide +kernel)) ggX1_putAhead_X5_putAllAhead
theorem dX1_putAhead_0 : decode cX1_putAhead 0 = .ok (.iload_n 2, 1) := by decide +kernel
theorem dX1_putAhead_1 : decode cX1_putAhead 1 = .ok (.istore_n 3, 1) := by decide +kernel
theorem dX1_putAhead_2 : decode cX1_putAhead 2 = .ok (.iload_n 3, 1) := by decide +kernel
theorem dX1_putAhead_3 : decode cX1_putAhead 3 = .ok (.ifCond .le 38, 3) := by decide +kernel
theorem dX1_putAhead_6 : decode cX1_putAhead 6 = .ok (.iload_n 3, 1) := by decide +kernel
theorem dX1_putAhead_7 : decode cX1_putAhead 7 = .ok (.bipush 10, 2) := by decide +kernel
theorem dX1_putAhead_9 : decode cX1_putAhead 9 = .ok (.irem, 1) := by decide +kernel
theorem dX1_putAhead_10 : decode cX1_putAhead 10 = .ok (.iconst 1, 1) := by decide +kernel
theorem dX1_putAhead_11 : decode cX1_putAhead 11 = .ok (.isub, 1) := by decide +kernel
theorem dX1_putAhead_12 : decode cX1_putAhead 12 = .ok (.istore 4, 2) := by decide +kernel
theorem dX1_putAhead_14 : decode cX1_putAhead 14 = .ok (.iload 4, 2) := by decide +kernel
theorem dX1_putAhead_16 : decode cX1_putAhead 16 = .ok (.invokestatic 36, 3) := by decide +kernel
theorem dX1_putAhead_19 : decode cX1_putAhead 19 = .ok (.ifCond .eq 14, 3) := by decide +kernel
theorem dX1_putAhead_22 : decode cX1_putAhead 22 = .ok (.aload_n 1, 1) := by decide +kernel
theorem dX1_putAhead_23 : decode cX1_putAhead 23 = .ok (.aload_n 0, 1) := by decide +kernel
theorem dX1_putAhead_24 : decode cX1_putAhead 24 = .ok (.getfield 11, 3) := by decide +kernel
theorem dX1_putAhead_27 : decode cX1_putAhead 27 = .ok (.iload 4, 2) := by decide +kernel
theorem dX1_putAhead_29 : decode cX1_putAhead 29 = .ok (.aaload, 1) := by decide +kernel
theorem dX1_putAhead_30 : decode cX1_putAhead 30 = .ok (.invokevirtual 40, 3) := by decide +kernel
theorem dX1_putAhead_33 : decode cX1_putAhead 33 = .ok (.iload_n 3, 1) := by decide +kernel
theorem dX1_putAhead_34 : decode cX1_putAhead 34 = .ok (.bipush 10, 2) := by decide +kernel
theorem dX1_putAhead_36 : decode cX1_putAhead 36 = .ok (.idiv, 1) := by decide +kernel
theorem dX1_putAhead_37 : decode cX1_putAhead 37 = .ok (.istore_n 3, 1) := by decide +kernel
theorem dX1_putAhead_38 : decode cX1_putAhead 38 = .ok (.goto (-36), 3) := by decide +kernel
theorem dX1_putAhead_41 : decode cX1_putAhead 41 = .ok (.return_, 1) := by decide +kernel
theorem dX2_init_0 : decode cX2_init 0 = .ok (.aload_n 0, 1) := by decide +kernel
theorem dX2_init_1 : decode cX2_init 1 = .ok (.invokespecial 3, 3) := by decide +kernel
theorem dX2_init_4 : decode cX2_init 4 = .ok (.aload_n 0, 1) := by decide +kernel
theorem dX2_init_5 : decode cX2_init 5 = .ok (.bipush 6, 2) := by decide +kernel
theorem dX2_init_7 : decode cX2_init 7 = .ok (.newarray .int, 2) := by decide +kernel
theorem dX2_init_9 : decode cX2_init 9 = .ok (.putfield 9, 3) := by decide +kernel
theorem dX2_init_12 : decode cX2_init 12 = .ok (.return_, 1) := by decide +kernel
set_option maxRecDepth 20000 in
theorem ggX2_find_J7_fill_53178 : GoodIn wsX2_find wsJ7_fill_53178 := goodIn_r _ [5] (by decide +kernel) (by decide +kernel)
set_option maxRecDepth 20000 in
theorem gX2_find_J7_fill_53178 : GoodIn wsX2_find (va_wsS RX2 15 yJ7_fill_53178 wsJ7_fill_53178) := goodIn_app (goodIn_of _ (by decide +kernel)) ggX2_find_J7_fill_53178
set_option maxRecDepth 20000 in
theorem ggX2_find_X2_leastLetter : GoodIn wsX2_find wsX2_leastLetter := goodIn_r _ [10, 11, 12, 13, 9, 14, 15, 16, 17, 18, 19, 20, 21, 22, 23, 24, 25, 26, 27, 28, 29, 30, 31, 32, 33, 1, 35, 36, 34] (by decide +kernel) (by decide +kernel)
set_option maxRecDepth 20000 in
theorem gX2_find_X2_leastLetter : GoodIn wsX2_find (wsV RX2 21 RX2 yX2_leastLetter wsX2_leastLetter) := goodIn_app (goodIn_of _ (by decide +kernel)) ggX2_find_X2_leastLetter
set_option maxRecDepth 20000 in
theorem ggX2_find_X2_byLetter : GoodIn wsX2_find wsX2_byLetter := goodIn_r _ [14, 15, 16, 17, 18, 19, 20, 21, 22, 23, 24, 25, 26, 27, 28, 9, 29, 30, 31, 32, 33, 1, 35, 36, 34] (by decide +kernel) (by decide +kernel)
set_option maxRecDepth 20000 in
theorem gX2_find_X2_byLetter : GoodIn wsX2_find (wsV RX2 25 RX2 yX2_byLetter wsX2_byLetter) := goodIn_app (goodIn_of _ (by decide +kernel)) ggX2_find_X2_byLetter
theorem dX2_find_0 : decode cX2_find 0 = .ok (.aload_n 0, 1) := by decide +kernel
theorem dX2_find_1 : decode cX2_find 1 = .ok (.getfield 9, 3) := by decide +kernel
theorem dX2_find_4 : decode cX2_find 4 = .ok (.bipush (-9), 2) := by decide +kernel
theorem dX2_find_6 : decode cX2_find 6 = .ok (.invokestatic 15, 3) := by decide +kernel
theorem dX2_find_9 : decode cX2_find 9 = .ok (.iconst 0, 1) := by decide +kernel
theorem dX2_find_10 : decode cX2_find 10 = .ok (.istore_n 2, 1) := by decide +kernel
theorem dX2_find_11 : decode cX2_find 11 = .ok (.iload_n 2, 1) := by decide +kernel
theorem dX2_find_12 : decode cX2_find 12 = .ok (.bipush 6, 2) := by decide +kernel
theorem dX2_find_14 : decode cX2_find 14 = .ok (.if_icmp .ge 41, 3) := by decide +kernel
theorem dX2_find_17 : decode cX2_find 17 = .ok (.iconst 0, 1) := by decide +kernel
theorem dX2_find_18 : decode cX2_find 18 = .ok (.istore_n 3, 1) := by decide +kernel
theorem dX2_find_19 : decode cX2_find 19 = .ok (.iload_n 3, 1) := by decide +kernel
theorem dX2_find_20 : decode cX2_find 20 = .ok (.bipush 6, 2) := by decide +kernel
theorem dX2_find_22 : decode cX2_find 22 = .ok (.if_icmp .ge 27, 3) := by decide +kernel
theorem dX2_find_25 : decode cX2_find 25 = .ok (.aload_n 0, 1) := by decide +kernel
theorem dX2_find_26 : decode cX2_find 26 = .ok (.getfield 9, 3) := by decide +kernel
theorem dX2_find_29 : decode cX2_find 29 = .ok (.iload_n 3, 1) := by decide +kernel
theorem dX2_find_30 : decode cX2_find 30 = .ok (.aload_n 0, 1) := by decide +kernel
theorem dX2_find_31 : decode cX2_find 31 = .ok (.aload_n 1, 1) := by decide +kernel
theorem dX2_find_32 : decode cX2_find 32 = .ok (.iload_n 3, 1) := by decide +kernel
theorem dX2_find_33 : decode cX2_find 33 = .ok (.aload_n 0, 1) := by decide +kernel
theorem dX2_find_34 : decode cX2_find 34 = .ok (.aload_n 1, 1) := by decide +kernel
theorem dX2_find_35 : decode cX2_find 35 = .ok (.iload_n 3, 1) := by decide +kernel
theorem dX2_find_36 : decode cX2_find 36 = .ok (.invokevirtual 21, 3) := by decide +kernel
theorem dX2_find_39 : decode cX2_find 39 = .ok (.invokevirtual 25, 3) := by decide +kernel
theorem dX2_find_42 : decode cX2_find 42 = .ok (.iastore, 1) := by decide +kernel
theorem dX2_find_43 : decode cX2_find 43 = .ok (.iinc 3 1, 3) := by decide +kernel
theorem dX2_find_46 : decode cX2_find 46 = .ok (.goto (-27), 3) := by decide +kernel
theorem dX2_find_49 : decode cX2_find 49 = .ok (.iinc 2 1, 3) := by decide +kernel
theorem dX2_find_52 : decode cX2_find 52 = .ok (.goto (-41), 3) := by decide +kernel
theorem dX2_find_55 : decode cX2_find 55 = .ok (.return_, 1) := by decide +kernel
set_option maxRecDepth 20000 in
theorem ggX2_ofRow_X2_of : GoodIn wsX2_ofRow wsX2_of := goodIn_r _ [5, 6, 7, 8, 9, 10] (by decide +kernel) (by decide +kernel)
set_option maxRecDepth 20000 in
theorem gX2_ofRow_X2_of : GoodIn wsX2_ofRow (wsV RX2 29 RX2 yX2_of wsX2_of) := goodIn_app (goodIn_of _ (by decide +kernel)) ggX2_ofRow_X2_of
theorem dX2_ofRow_0 : decode cX2_ofRow 0 = .ok (.iconst 0, 1) := by decide +kernel
theorem dX2_ofRow_1 : decode cX2_ofRow 1 = .ok (.istore_n 2, 1) := by decide +kernel
theorem dX2_ofRow_2 : decode cX2_ofRow 2 = .ok (.iload_n 1, 1) := by decide +kernel
theorem dX2_ofRow_3 : decode cX2_ofRow 3 = .ok (.istore_n 3, 1) := by decide +kernel
theorem dX2_ofRow_4 : decode cX2_ofRow 4 = .ok (.iload_n 3, 1) := by decide +kernel
theorem dX2_ofRow_5 : decode cX2_ofRow 5 = .ok (.ifCond .le 38, 3) := by decide +kernel
theorem dX2_ofRow_8 : decode cX2_ofRow 8 = .ok (.aload_n 0, 1) := by decide +kernel
theorem dX2_ofRow_9 : decode cX2_ofRow 9 = .ok (.iload_n 3, 1) := by decide +kernel
theorem dX2_ofRow_10 : decode cX2_ofRow 10 = .ok (.bipush 10, 2) := by decide +kernel
theorem dX2_ofRow_12 : decode cX2_ofRow 12 = .ok (.irem, 1) := by decide +kernel
theorem dX2_ofRow_13 : decode cX2_ofRow 13 = .ok (.iconst 1, 1) := by decide +kernel
theorem dX2_ofRow_14 : decode cX2_ofRow 14 = .ok (.isub, 1) := by decide +kernel
theorem dX2_ofRow_15 : decode cX2_ofRow 15 = .ok (.invokevirtual 29, 3) := by decide +kernel
theorem dX2_ofRow_18 : decode cX2_ofRow 18 = .ok (.istore 4, 2) := by decide +kernel
theorem dX2_ofRow_20 : decode cX2_ofRow 20 = .ok (.iload 4, 2) := by decide +kernel
theorem dX2_ofRow_22 : decode cX2_ofRow 22 = .ok (.bipush (-9), 2) := by decide +kernel
theorem dX2_ofRow_24 : decode cX2_ofRow 24 = .ok (.if_icmp .ne 6, 3) := by decide +kernel
theorem dX2_ofRow_27 : decode cX2_ofRow 27 = .ok (.bipush (-9), 2) := by decide +kernel
theorem dX2_ofRow_29 : decode cX2_ofRow 29 = .ok (.ireturn, 1) := by decide +kernel
theorem dX2_ofRow_30 : decode cX2_ofRow 30 = .ok (.iload_n 2, 1) := by decide +kernel
theorem dX2_ofRow_31 : decode cX2_ofRow 31 = .ok (.iload 4, 2) := by decide +kernel
theorem dX2_ofRow_33 : decode cX2_ofRow 33 = .ok (.iadd, 1) := by decide +kernel
theorem dX2_ofRow_34 : decode cX2_ofRow 34 = .ok (.istore_n 2, 1) := by decide +kernel
theorem dX2_ofRow_35 : decode cX2_ofRow 35 = .ok (.iload_n 3, 1) := by decide +kernel
theorem dX2_ofRow_36 : decode cX2_ofRow 36 = .ok (.bipush 10, 2) := by decide +kernel
theorem dX2_ofRow_38 : decode cX2_ofRow 38 = .ok (.idiv, 1) := by decide +kernel
theorem dX2_ofRow_39 : decode cX2_ofRow 39 = .ok (.istore_n 3, 1) := by decide +kernel
theorem dX2_ofRow_40 : decode cX2_ofRow 40 = .ok (.goto (-36), 3) := by decide +kernel
theorem dX2_ofRow_43 : decode cX2_ofRow 43 = .ok (.iload_n 2, 1) := by decide +kernel
theorem dX2_ofRow_44 : decode cX2_ofRow 44 = .ok (.ireturn, 1) := by decide +kernel
theorem dX2_countFound_0 : decode cX2_countFound 0 = .ok (.iconst 0, 1) := by decide +kernel
theorem dX2_countFound_1 : decode cX2_countFound 1 = .ok (.istore_n 1, 1) := by decide +kernel
theorem dX2_countFound_2 : decode cX2_countFound 2 = .ok (.aload_n 0, 1) := by decide +kernel
theorem dX2_countFound_3 : decode cX2_countFound 3 = .ok (.getfield 9, 3) := by decide +kernel
theorem dX2_countFound_6 : decode cX2_countFound 6 = .ok (.astore_n 2, 1) := by decide +kernel
theorem dX2_countFound_7 : decode cX2_countFound 7 = .ok (.aload_n 2, 1) := by decide +kernel
theorem dX2_countFound_8 : decode cX2_countFound 8 = .ok (.arraylength, 1) := by decide +kernel
theorem dX2_countFound_9 : decode cX2_countFound 9 = .ok (.istore_n 3, 1) := by decide +kernel
theorem dX2_countFound_10 : decode cX2_countFound 10 = .ok (.iconst 0, 1) := by decide +kernel
theorem dX2_countFound_11 : decode cX2_countFound 11 = .ok (.istore 4, 2) := by decide +kernel
theorem dX2_countFound_13 : decode cX2_countFound 13 = .ok (.iload 4, 2) := by decide +kernel
theorem dX2_countFound_15 : decode cX2_countFound 15 = .ok (.iload_n 3, 1) := by decide +kernel
theorem dX2_countFound_16 : decode cX2_countFound 16 = .ok (.if_icmp .ge 25, 3) := by decide +kernel
theorem dX2_countFound_19 : decode cX2_countFound 19 = .ok (.aload_n 2, 1) := by decide +kernel
theorem dX2_countFound_20 : decode cX2_countFound 20 = .ok (.iload 4, 2) := by decide +kernel
theorem dX2_countFound_22 : decode cX2_countFound 22 = .ok (.iaload, 1) := by decide +kernel
theorem dX2_countFound_23 : decode cX2_countFound 23 = .ok (.istore 5, 2) := by decide +kernel
theorem dX2_countFound_25 : decode cX2_countFound 25 = .ok (.iload 5, 2) := by decide +kernel
theorem dX2_countFound_27 : decode cX2_countFound 27 = .ok (.bipush (-9), 2) := by decide +kernel
theorem dX2_countFound_29 : decode cX2_countFound 29 = .ok (.if_icmp .eq 6, 3) := by decide +kernel
theorem dX2_countFound_32 : decode cX2_countFound 32 = .ok (.iinc 1 1, 3) := by decide +kernel
theorem dX2_countFound_35 : decode cX2_countFound 35 = .ok (.iinc 4 1, 3) := by decide +kernel
theorem dX2_countFound_38 : decode cX2_countFound 38 = .ok (.goto (-25), 3) := by decide +kernel
theorem dX2_countFound_41 : decode cX2_countFound 41 = .ok (.iload_n 1, 1) := by decide +kernel
theorem dX2_countFound_42 : decode cX2_countFound 42 = .ok (.ireturn, 1) := by decide +kernel
set_option maxRecDepth 20000 in
theorem ggX2_leastLetter_X2_byLetter : GoodIn wsX2_leastLetter wsX2_byLetter := goodIn_r _ [5, 6, 7, 8, 9, 10, 11, 12, 13, 14, 15, 16, 17, 18, 19, 4, 20, 21, 22, 23, 24, 25, 26, 27, 28] (by decide +kernel) (by decide +kernel)
set_option maxRecDepth 20000 in
theorem gX2_leastLetter_X2_byLetter : GoodIn wsX2_leastLetter (wsV RX2 25 RX2 yX2_byLetter wsX2_byLetter) := goodIn_app (goodIn_of _ (by decide +kernel)) ggX2_leastLetter_X2_byLetter
theorem dX2_leastLetter_0 : decode cX2_leastLetter 0 = .ok (.bipush (-9), 2) := by decide +kernel
theorem dX2_leastLetter_2 : decode cX2_leastLetter 2 = .ok (.istore_n 3, 1) := by decide +kernel
theorem dX2_leastLetter_3 : decode cX2_leastLetter 3 = .ok (.bipush (-9), 2) := by decide +kernel
theorem dX2_leastLetter_5 : decode cX2_leastLetter 5 = .ok (.istore 4, 2) := by decide +kernel
theorem dX2_leastLetter_7 : decode cX2_leastLetter 7 = .ok (.iconst 0, 1) := by decide +kernel
theorem dX2_leastLetter_8 : decode cX2_leastLetter 8 = .ok (.istore 5, 2) := by decide +kernel
theorem dX2_leastLetter_10 : decode cX2_leastLetter 10 = .ok (.iload 5, 2) := by decide +kernel
theorem dX2_leastLetter_12 : decode cX2_leastLetter 12 = .ok (.iconst 3, 1) := by decide +kernel
theorem dX2_leastLetter_13 : decode cX2_leastLetter 13 = .ok (.if_icmp .ge 47, 3) := by decide +kernel
theorem dX2_leastLetter_16 : decode cX2_leastLetter 16 = .ok (.aload_n 0, 1) := by decide +kernel
theorem dX2_leastLetter_17 : decode cX2_leastLetter 17 = .ok (.aload_n 1, 1) := by decide +kernel
theorem dX2_leastLetter_18 : decode cX2_leastLetter 18 = .ok (.iload_n 2, 1) := by decide +kernel
theorem dX2_leastLetter_19 : decode cX2_leastLetter 19 = .ok (.iload 5, 2) := by decide +kernel
theorem dX2_leastLetter_21 : decode cX2_leastLetter 21 = .ok (.invokevirtual 25, 3) := by decide +kernel
theorem dX2_leastLetter_24 : decode cX2_leastLetter 24 = .ok (.istore 6, 2) := by decide +kernel
theorem dX2_leastLetter_26 : decode cX2_leastLetter 26 = .ok (.iload 6, 2) := by decide +kernel
theorem dX2_leastLetter_28 : decode cX2_leastLetter 28 = .ok (.bipush (-9), 2) := by decide +kernel
theorem dX2_leastLetter_30 : decode cX2_leastLetter 30 = .ok (.if_icmp .eq 24, 3) := by decide +kernel
theorem dX2_leastLetter_33 : decode cX2_leastLetter 33 = .ok (.iload 4, 2) := by decide +kernel
theorem dX2_leastLetter_35 : decode cX2_leastLetter 35 = .ok (.bipush (-9), 2) := by decide +kernel
theorem dX2_leastLetter_37 : decode cX2_leastLetter 37 = .ok (.if_icmp .eq 10, 3) := by decide +kernel
theorem dX2_leastLetter_40 : decode cX2_leastLetter 40 = .ok (.iload 6, 2) := by decide +kernel
theorem dX2_leastLetter_42 : decode cX2_leastLetter 42 = .ok (.iload 4, 2) := by decide +kernel
theorem dX2_leastLetter_44 : decode cX2_leastLetter 44 = .ok (.if_icmp .ge 10, 3) := by decide +kernel
theorem dX2_leastLetter_47 : decode cX2_leastLetter 47 = .ok (.iload 5, 2) := by decide +kernel
theorem dX2_leastLetter_49 : decode cX2_leastLetter 49 = .ok (.istore_n 3, 1) := by decide +kernel
theorem dX2_leastLetter_50 : decode cX2_leastLetter 50 = .ok (.iload 6, 2) := by decide +kernel
theorem dX2_leastLetter_52 : decode cX2_leastLetter 52 = .ok (.istore 4, 2) := by decide +kernel
theorem dX2_leastLetter_54 : decode cX2_leastLetter 54 = .ok (.iinc 5 1, 3) := by decide +kernel
theorem dX2_leastLetter_57 : decode cX2_leastLetter 57 = .ok (.goto (-47), 3) := by decide +kernel
theorem dX2_leastLetter_60 : decode cX2_leastLetter 60 = .ok (.iload_n 3, 1) := by decide +kernel
theorem dX2_leastLetter_61 : decode cX2_leastLetter 61 = .ok (.ireturn, 1) := by decide +kernel
set_option maxRecDepth 20000 in
theorem ggX2_firstsWithin_X2_of : GoodIn wsX2_firstsWithin wsX2_of := goodIn_r _ [5, 6, 7, 8, 9, 10] (by decide +kernel) (by decide +kernel)
set_option maxRecDepth 20000 in
theorem gX2_firstsWithin_X2_of : GoodIn wsX2_firstsWithin (wsV RX2 29 RX2 yX2_of wsX2_of) := goodIn_app (goodIn_of _ (by decide +kernel)) ggX2_firstsWithin_X2_of
theorem dX2_firstsWithin_0 : decode cX2_firstsWithin 0 = .ok (.iconst 0, 1) := by decide +kernel
theorem dX2_firstsWithin_1 : decode cX2_firstsWithin 1 = .ok (.istore_n 2, 1) := by decide +kernel
theorem dX2_firstsWithin_2 : decode cX2_firstsWithin 2 = .ok (.iload_n 1, 1) := by decide +kernel
theorem dX2_firstsWithin_3 : decode cX2_firstsWithin 3 = .ok (.istore_n 3, 1) := by decide +kernel
theorem dX2_firstsWithin_4 : decode cX2_firstsWithin 4 = .ok (.iload_n 3, 1) := by decide +kernel
theorem dX2_firstsWithin_5 : decode cX2_firstsWithin 5 = .ok (.ifCond .le 44, 3) := by decide +kernel
theorem dX2_firstsWithin_8 : decode cX2_firstsWithin 8 = .ok (.iload_n 3, 1) := by decide +kernel
theorem dX2_firstsWithin_9 : decode cX2_firstsWithin 9 = .ok (.bipush 10, 2) := by decide +kernel
theorem dX2_firstsWithin_11 : decode cX2_firstsWithin 11 = .ok (.irem, 1) := by decide +kernel
theorem dX2_firstsWithin_12 : decode cX2_firstsWithin 12 = .ok (.iconst 1, 1) := by decide +kernel
theorem dX2_firstsWithin_13 : decode cX2_firstsWithin 13 = .ok (.isub, 1) := by decide +kernel
theorem dX2_firstsWithin_14 : decode cX2_firstsWithin 14 = .ok (.istore 4, 2) := by decide +kernel
theorem dX2_firstsWithin_16 : decode cX2_firstsWithin 16 = .ok (.aload_n 0, 1) := by decide +kernel
theorem dX2_firstsWithin_17 : decode cX2_firstsWithin 17 = .ok (.iload 4, 2) := by decide +kernel
theorem dX2_firstsWithin_19 : decode cX2_firstsWithin 19 = .ok (.invokevirtual 29, 3) := by decide +kernel
theorem dX2_firstsWithin_22 : decode cX2_firstsWithin 22 = .ok (.bipush (-9), 2) := by decide +kernel
theorem dX2_firstsWithin_24 : decode cX2_firstsWithin 24 = .ok (.if_icmp .ne 10, 3) := by decide +kernel
theorem dX2_firstsWithin_27 : decode cX2_firstsWithin 27 = .ok (.iconst 1, 1) := by decide +kernel
theorem dX2_firstsWithin_28 : decode cX2_firstsWithin 28 = .ok (.iload 4, 2) := by decide +kernel
theorem dX2_firstsWithin_30 : decode cX2_firstsWithin 30 = .ok (.ishl, 1) := by decide +kernel
theorem dX2_firstsWithin_31 : decode cX2_firstsWithin 31 = .ok (.goto 9, 3) := by decide +kernel
theorem dX2_firstsWithin_34 : decode cX2_firstsWithin 34 = .ok (.iload_n 2, 1) := by decide +kernel
theorem dX2_firstsWithin_35 : decode cX2_firstsWithin 35 = .ok (.iconst 1, 1) := by decide +kernel
theorem dX2_firstsWithin_36 : decode cX2_firstsWithin 36 = .ok (.iload 4, 2) := by decide +kernel
theorem dX2_firstsWithin_38 : decode cX2_firstsWithin 38 = .ok (.ishl, 1) := by decide +kernel
theorem dX2_firstsWithin_39 : decode cX2_firstsWithin 39 = .ok (.ior, 1) := by decide +kernel
theorem dX2_firstsWithin_40 : decode cX2_firstsWithin 40 = .ok (.istore_n 2, 1) := by decide +kernel
theorem dX2_firstsWithin_41 : decode cX2_firstsWithin 41 = .ok (.iload_n 3, 1) := by decide +kernel
theorem dX2_firstsWithin_42 : decode cX2_firstsWithin 42 = .ok (.bipush 10, 2) := by decide +kernel
theorem dX2_firstsWithin_44 : decode cX2_firstsWithin 44 = .ok (.idiv, 1) := by decide +kernel
theorem dX2_firstsWithin_45 : decode cX2_firstsWithin 45 = .ok (.istore_n 3, 1) := by decide +kernel
theorem dX2_firstsWithin_46 : decode cX2_firstsWithin 46 = .ok (.goto (-42), 3) := by decide +kernel
theorem dX2_firstsWithin_49 : decode cX2_firstsWithin 49 = .ok (.iload_n 2, 1) := by decide +kernel
theorem dX2_firstsWithin_50 : decode cX2_firstsWithin 50 = .ok (.ireturn, 1) := by decide +kernel
set_option maxRecDepth 20000 in
theorem ggX2_byLetter_X6_ruleOf : GoodIn wsX2_byLetter wsX6_ruleOf := goodIn_r _ [5, 6, 7, 8, 9, 10, 11, 22, 23] (by decide +kernel) (by decide +kernel)
set_option maxRecDepth 20000 in
theorem gX2_byLetter_X6_ruleOf : GoodIn wsX2_byLetter (wsV RX2 33 RX6 yX6_ruleOf wsX6_ruleOf) := goodIn_app (goodIn_of _ (by decide +kernel)) ggX2_byLetter_X6_ruleOf
set_option maxRecDepth 20000 in
theorem ggX2_byLetter_X2_ofRow : GoodIn wsX2_byLetter wsX2_ofRow := goodIn_r _ [16, 17, 18, 19, 15, 20, 21, 7, 8, 9, 24] (by decide +kernel) (by decide +kernel)
set_option maxRecDepth 20000 in
theorem gX2_byLetter_X2_ofRow : GoodIn wsX2_byLetter (wsV RX2 39 RX2 yX2_ofRow wsX2_ofRow) := goodIn_app (goodIn_of _ (by decide +kernel)) ggX2_byLetter_X2_ofRow
theorem dX2_byLetter_0 : decode cX2_byLetter 0 = .ok (.aload_n 1, 1) := by decide +kernel
theorem dX2_byLetter_1 : decode cX2_byLetter 1 = .ok (.iload_n 2, 1) := by decide +kernel
theorem dX2_byLetter_2 : decode cX2_byLetter 2 = .ok (.iload_n 3, 1) := by decide +kernel
theorem dX2_byLetter_3 : decode cX2_byLetter 3 = .ok (.invokevirtual 33, 3) := by decide +kernel
theorem dX2_byLetter_6 : decode cX2_byLetter 6 = .ok (.istore 4, 2) := by decide +kernel
theorem dX2_byLetter_8 : decode cX2_byLetter 8 = .ok (.iload 4, 2) := by decide +kernel
theorem dX2_byLetter_10 : decode cX2_byLetter 10 = .ok (.bipush (-9), 2) := by decide +kernel
theorem dX2_byLetter_12 : decode cX2_byLetter 12 = .ok (.if_icmp .ne 8, 3) := by decide +kernel
theorem dX2_byLetter_15 : decode cX2_byLetter 15 = .ok (.bipush (-9), 2) := by decide +kernel
theorem dX2_byLetter_17 : decode cX2_byLetter 17 = .ok (.goto 9, 3) := by decide +kernel
theorem dX2_byLetter_20 : decode cX2_byLetter 20 = .ok (.aload_n 0, 1) := by decide +kernel
theorem dX2_byLetter_21 : decode cX2_byLetter 21 = .ok (.iload 4, 2) := by decide +kernel
theorem dX2_byLetter_23 : decode cX2_byLetter 23 = .ok (.invokevirtual 39, 3) := by decide +kernel
theorem dX2_byLetter_26 : decode cX2_byLetter 26 = .ok (.istore 5, 2) := by decide +kernel
theorem dX2_byLetter_28 : decode cX2_byLetter 28 = .ok (.iload 5, 2) := by decide +kernel
theorem dX2_byLetter_30 : decode cX2_byLetter 30 = .ok (.bipush (-9), 2) := by decide +kernel
theorem dX2_byLetter_32 : decode cX2_byLetter 32 = .ok (.if_icmp .ne 8, 3) := by decide +kernel
theorem dX2_byLetter_35 : decode cX2_byLetter 35 = .ok (.bipush (-9), 2) := by decide +kernel
theorem dX2_byLetter_37 : decode cX2_byLetter 37 = .ok (.goto 7, 3) := by decide +kernel
theorem dX2_byLetter_40 : decode cX2_byLetter 40 = .ok (.iload 5, 2) := by decide +kernel
theorem dX2_byLetter_42 : decode cX2_byLetter 42 = .ok (.iconst 1, 1) := by decide +kernel
theorem dX2_byLetter_43 : decode cX2_byLetter 43 = .ok (.iadd, 1) := by decide +kernel
theorem dX2_byLetter_44 : decode cX2_byLetter 44 = .ok (.ireturn, 1) := by decide +kernel
set_option maxRecDepth 20000 in
theorem ggX2_of_X7_isSign : GoodIn wsX2_of wsX7_isSign := goodIn_r _ [4] (by decide +kernel) (by decide +kernel)
set_option maxRecDepth 20000 in
theorem gX2_of_X7_isSign_n42 : GoodIn wsX2_of (wsX7_isSign) := ggX2_of_X7_isSign
theorem dX2_of_0 : decode cX2_of 0 = .ok (.iload_n 1, 1) := by decide +kernel
theorem dX2_of_1 : decode cX2_of 1 = .ok (.invokestatic 42, 3) := by decide +kernel
theorem dX2_of_4 : decode cX2_of 4 = .ok (.ifCond .eq 12, 3) := by decide +kernel
theorem dX2_of_7 : decode cX2_of 7 = .ok (.aload_n 0, 1) := by decide +kernel
theorem dX2_of_8 : decode cX2_of 8 = .ok (.getfield 9, 3) := by decide +kernel
theorem dX2_of_11 : decode cX2_of 11 = .ok (.iload_n 1, 1) := by decide +kernel
theorem dX2_of_12 : decode cX2_of 12 = .ok (.iaload, 1) := by decide +kernel
theorem dX2_of_13 : decode cX2_of 13 = .ok (.goto 5, 3) := by decide +kernel
theorem dX2_of_16 : decode cX2_of 16 = .ok (.bipush (-9), 2) := by decide +kernel
theorem dX2_of_18 : decode cX2_of 18 = .ok (.ireturn, 1) := by decide +kernel
set_option maxRecDepth 20000 in
theorem ggX3_init_X6_init : GoodIn wsX3_init wsX6_init := goodIn_r _ [10, 11, 2, 3, 12, 13, 14, 15, 16, 17, 18, 22, 23] (by decide +kernel) (by decide +kernel)
set_option maxRecDepth 20000 in
theorem gX3_init_X6_init : GoodIn wsX3_init (wsX6_init) := ggX3_init_X6_init
theorem dX3_init_0 : decode cX3_init 0 = .ok (.aload_n 0, 1) := by decide +kernel
theorem dX3_init_1 : decode cX3_init 1 = .ok (.invokespecial 3, 3) := by decide +kernel
theorem dX3_init_4 : decode cX3_init 4 = .ok (.aload_n 0, 1) := by decide +kernel
theorem dX3_init_5 : decode cX3_init 5 = .ok (.bipush 20, 2) := by decide +kernel
theorem dX3_init_7 : decode cX3_init 7 = .ok (.anewarray 9, 3) := by decide +kernel
theorem dX3_init_10 : decode cX3_init 10 = .ok (.putfield 11, 3) := by decide +kernel
theorem dX3_init_13 : decode cX3_init 13 = .ok (.iconst 0, 1) := by decide +kernel
theorem dX3_init_14 : decode cX3_init 14 = .ok (.istore_n 1, 1) := by decide +kernel
theorem dX3_init_15 : decode cX3_init 15 = .ok (.iload_n 1, 1) := by decide +kernel
theorem dX3_init_16 : decode cX3_init 16 = .ok (.bipush 20, 2) := by decide +kernel
theorem dX3_init_18 : decode cX3_init 18 = .ok (.if_icmp .ge 22, 3) := by decide +kernel
theorem dX3_init_21 : decode cX3_init 21 = .ok (.aload_n 0, 1) := by decide +kernel
theorem dX3_init_22 : decode cX3_init 22 = .ok (.getfield 11, 3) := by decide +kernel
theorem dX3_init_25 : decode cX3_init 25 = .ok (.iload_n 1, 1) := by decide +kernel
theorem dX3_init_26 : decode cX3_init 26 = .ok (.new 9, 3) := by decide +kernel
theorem dX3_init_29 : decode cX3_init 29 = .ok (.dup, 1) := by decide +kernel
theorem dX3_init_30 : decode cX3_init 30 = .ok (.invokespecial 17, 3) := by decide +kernel
theorem dX3_init_33 : decode cX3_init 33 = .ok (.aastore, 1) := by decide +kernel
theorem dX3_init_34 : decode cX3_init 34 = .ok (.iinc 1 1, 3) := by decide +kernel
theorem dX3_init_37 : decode cX3_init 37 = .ok (.goto (-22), 3) := by decide +kernel
theorem dX3_init_40 : decode cX3_init 40 = .ok (.return_, 1) := by decide +kernel
theorem dX3_kept_0 : decode cX3_kept 0 = .ok (.aload_n 0, 1) := by decide +kernel
theorem dX3_kept_1 : decode cX3_kept 1 = .ok (.getfield 18, 3) := by decide +kernel
theorem dX3_kept_4 : decode cX3_kept 4 = .ok (.ireturn, 1) := by decide +kernel
set_option maxRecDepth 20000 in
theorem ggX3_keep_X6_copyFrom : GoodIn wsX3_keep wsX6_copyFrom := goodIn_r _ [12, 13, 14, 15, 16, 17, 18, 22, 23] (by decide +kernel) (by decide +kernel)
set_option maxRecDepth 20000 in
theorem gX3_keep_X6_copyFrom : GoodIn wsX3_keep (wsV RX3 25 RX6 yX6_copyFrom wsX6_copyFrom) := goodIn_app (goodIn_of _ (by decide +kernel)) ggX3_keep_X6_copyFrom
theorem dX3_keep_0 : decode cX3_keep 0 = .ok (.aload_n 0, 1) := by decide +kernel
theorem dX3_keep_1 : decode cX3_keep 1 = .ok (.getfield 11, 3) := by decide +kernel
theorem dX3_keep_4 : decode cX3_keep 4 = .ok (.aload_n 0, 1) := by decide +kernel
theorem dX3_keep_5 : decode cX3_keep 5 = .ok (.getfield 22, 3) := by decide +kernel
theorem dX3_keep_8 : decode cX3_keep 8 = .ok (.aaload, 1) := by decide +kernel
theorem dX3_keep_9 : decode cX3_keep 9 = .ok (.aload_n 1, 1) := by decide +kernel
theorem dX3_keep_10 : decode cX3_keep 10 = .ok (.invokevirtual 25, 3) := by decide +kernel
theorem dX3_keep_13 : decode cX3_keep 13 = .ok (.aload_n 0, 1) := by decide +kernel
theorem dX3_keep_14 : decode cX3_keep 14 = .ok (.aload_n 0, 1) := by decide +kernel
theorem dX3_keep_15 : decode cX3_keep 15 = .ok (.getfield 22, 3) := by decide +kernel
theorem dX3_keep_18 : decode cX3_keep 18 = .ok (.iconst 1, 1) := by decide +kernel
theorem dX3_keep_19 : decode cX3_keep 19 = .ok (.iadd, 1) := by decide +kernel
theorem dX3_keep_20 : decode cX3_keep 20 = .ok (.bipush 20, 2) := by decide +kernel
theorem dX3_keep_22 : decode cX3_keep 22 = .ok (.irem, 1) := by decide +kernel
theorem dX3_keep_23 : decode cX3_keep 23 = .ok (.putfield 22, 3) := by decide +kernel
theorem dX3_keep_26 : decode cX3_keep 26 = .ok (.aload_n 0, 1) := by decide +kernel
theorem dX3_keep_27 : decode cX3_keep 27 = .ok (.aload_n 0, 1) := by decide +kernel
theorem dX3_keep_28 : decode cX3_keep 28 = .ok (.getfield 18, 3) := by decide +kernel
theorem dX3_keep_31 : decode cX3_keep 31 = .ok (.iconst 1, 1) := by decide +kernel
theorem dX3_keep_32 : decode cX3_keep 32 = .ok (.iadd, 1) := by decide +kernel
theorem dX3_keep_33 : decode cX3_keep 33 = .ok (.bipush 20, 2) := by decide +kernel
theorem dX3_keep_35 : decode cX3_keep 35 = .ok (.invokestatic 29, 3) := by decide +kernel
theorem dX3_keep_38 : decode cX3_keep 38 = .ok (.putfield 18, 3) := by decide +kernel
theorem dX3_keep_41 : decode cX3_keep 41 = .ok (.return_, 1) := by decide +kernel
set_option maxRecDepth 20000 in
theorem ggX3_bringBack_X6_copyFrom : GoodIn wsX3_bringBack wsX6_copyFrom := goodIn_r _ [8, 9, 10, 11, 12, 13, 14, 18, 19] (by decide +kernel) (by decide +kernel)
set_option maxRecDepth 20000 in
theorem gX3_bringBack_X6_copyFrom : GoodIn wsX3_bringBack (wsV RX3 25 RX6 yX6_copyFrom wsX6_copyFrom) := goodIn_app (goodIn_of _ (by decide +kernel)) ggX3_bringBack_X6_copyFrom
theorem dX3_bringBack_0 : decode cX3_bringBack 0 = .ok (.iload_n 2, 1) := by decide +kernel
theorem dX3_bringBack_1 : decode cX3_bringBack 1 = .ok (.ifCond .le 50, 3) := by decide +kernel
theorem dX3_bringBack_4 : decode cX3_bringBack 4 = .ok (.iload_n 2, 1) := by decide +kernel
theorem dX3_bringBack_5 : decode cX3_bringBack 5 = .ok (.aload_n 0, 1) := by decide +kernel
theorem dX3_bringBack_6 : decode cX3_bringBack 6 = .ok (.getfield 18, 3) := by decide +kernel
theorem dX3_bringBack_9 : decode cX3_bringBack 9 = .ok (.if_icmp .gt 42, 3) := by decide +kernel
theorem dX3_bringBack_12 : decode cX3_bringBack 12 = .ok (.aload_n 0, 1) := by decide +kernel
theorem dX3_bringBack_13 : decode cX3_bringBack 13 = .ok (.aload_n 0, 1) := by decide +kernel
theorem dX3_bringBack_14 : decode cX3_bringBack 14 = .ok (.getfield 22, 3) := by decide +kernel
theorem dX3_bringBack_17 : decode cX3_bringBack 17 = .ok (.bipush 20, 2) := by decide +kernel
theorem dX3_bringBack_19 : decode cX3_bringBack 19 = .ok (.iadd, 1) := by decide +kernel
theorem dX3_bringBack_20 : decode cX3_bringBack 20 = .ok (.iload_n 2, 1) := by decide +kernel
theorem dX3_bringBack_21 : decode cX3_bringBack 21 = .ok (.isub, 1) := by decide +kernel
theorem dX3_bringBack_22 : decode cX3_bringBack 22 = .ok (.bipush 20, 2) := by decide +kernel
theorem dX3_bringBack_24 : decode cX3_bringBack 24 = .ok (.irem, 1) := by decide +kernel
theorem dX3_bringBack_25 : decode cX3_bringBack 25 = .ok (.putfield 22, 3) := by decide +kernel
theorem dX3_bringBack_28 : decode cX3_bringBack 28 = .ok (.aload_n 0, 1) := by decide +kernel
theorem dX3_bringBack_29 : decode cX3_bringBack 29 = .ok (.dup, 1) := by decide +kernel
theorem dX3_bringBack_30 : decode cX3_bringBack 30 = .ok (.getfield 18, 3) := by decide +kernel
theorem dX3_bringBack_33 : decode cX3_bringBack 33 = .ok (.iload_n 2, 1) := by decide +kernel
theorem dX3_bringBack_34 : decode cX3_bringBack 34 = .ok (.isub, 1) := by decide +kernel
theorem dX3_bringBack_35 : decode cX3_bringBack 35 = .ok (.putfield 18, 3) := by decide +kernel
theorem dX3_bringBack_38 : decode cX3_bringBack 38 = .ok (.aload_n 1, 1) := by decide +kernel
theorem dX3_bringBack_39 : decode cX3_bringBack 39 = .ok (.aload_n 0, 1) := by decide +kernel
theorem dX3_bringBack_40 : decode cX3_bringBack 40 = .ok (.getfield 11, 3) := by decide +kernel
theorem dX3_bringBack_43 : decode cX3_bringBack 43 = .ok (.aload_n 0, 1) := by decide +kernel
theorem dX3_bringBack_44 : decode cX3_bringBack 44 = .ok (.getfield 22, 3) := by decide +kernel
theorem dX3_bringBack_47 : decode cX3_bringBack 47 = .ok (.aaload, 1) := by decide +kernel
theorem dX3_bringBack_48 : decode cX3_bringBack 48 = .ok (.invokevirtual 25, 3) := by decide +kernel
theorem dX3_bringBack_51 : decode cX3_bringBack 51 = .ok (.return_, 1) := by decide +kernel
set_option maxRecDepth 20000 in
theorem ggX4_init_X5_init : GoodIn wsX4_init wsX5_init := goodIn_r _ [11, 12, 2, 3, 13, 14, 15, 16, 17, 18, 19, 20] (by decide +kernel) (by decide +kernel)
set_option maxRecDepth 20000 in
theorem gX4_init_X5_init : GoodIn wsX4_init (wsX5_init) := ggX4_init_X5_init
theorem dX4_init_0 : decode cX4_init 0 = .ok (.aload_n 0, 1) := by decide +kernel
theorem dX4_init_1 : decode cX4_init 1 = .ok (.invokespecial 3, 3) := by decide +kernel
theorem dX4_init_4 : decode cX4_init 4 = .ok (.aload_n 0, 1) := by decide +kernel
theorem dX4_init_5 : decode cX4_init 5 = .ok (.new 9, 3) := by decide +kernel
theorem dX4_init_8 : decode cX4_init 8 = .ok (.dup, 1) := by decide +kernel
theorem dX4_init_9 : decode cX4_init 9 = .ok (.bipush 33, 2) := by decide +kernel
theorem dX4_init_11 : decode cX4_init 11 = .ok (.invokespecial 11, 3) := by decide +kernel
theorem dX4_init_14 : decode cX4_init 14 = .ok (.putfield 14, 3) := by decide +kernel
theorem dX4_init_17 : decode cX4_init 17 = .ok (.aload_n 0, 1) := by decide +kernel
theorem dX4_init_18 : decode cX4_init 18 = .ok (.new 9, 3) := by decide +kernel
theorem dX4_init_21 : decode cX4_init 21 = .ok (.dup, 1) := by decide +kernel
theorem dX4_init_22 : decode cX4_init 22 = .ok (.bipush 12, 2) := by decide +kernel
theorem dX4_init_24 : decode cX4_init 24 = .ok (.invokespecial 11, 3) := by decide +kernel
theorem dX4_init_27 : decode cX4_init 27 = .ok (.putfield 20, 3) := by decide +kernel
theorem dX4_init_30 : decode cX4_init 30 = .ok (.return_, 1) := by decide +kernel
set_option maxRecDepth 20000 in
theorem ggX4_start_X5_clear : GoodIn wsX4_start wsX5_clear := goodIn_r _ [6, 7, 20, 21] (by decide +kernel) (by decide +kernel)
set_option maxRecDepth 20000 in
theorem gX4_start_X5_clear : GoodIn wsX4_start (wsV RX4 23 RX5 yX5_clear wsX5_clear) := goodIn_app (goodIn_of _ (by decide +kernel)) ggX4_start_X5_clear
set_option maxRecDepth 20000 in
theorem ggX4_start_X5_putRowAhead : GoodIn wsX4_start wsX5_putRowAhead := goodIn_r _ [11, 12, 13, 14, 15, 5, 16, 7, 17, 20, 21] (by decide +kernel) (by decide +kernel)
set_option maxRecDepth 20000 in
theorem gX4_start_X5_putRowAhead : GoodIn wsX4_start (wsV RX4 26 RX5 yX5_putRowAhead wsX5_putRowAhead) := goodIn_app (goodIn_of _ (by decide +kernel)) ggX4_start_X5_putRowAhead
theorem dX4_start_0 : decode cX4_start 0 = .ok (.aload_n 0, 1) := by decide +kernel
theorem dX4_start_1 : decode cX4_start 1 = .ok (.getfield 14, 3) := by decide +kernel
theorem dX4_start_4 : decode cX4_start 4 = .ok (.invokevirtual 23, 3) := by decide +kernel
theorem dX4_start_7 : decode cX4_start 7 = .ok (.aload_n 0, 1) := by decide +kernel
theorem dX4_start_8 : decode cX4_start 8 = .ok (.getfield 14, 3) := by decide +kernel
theorem dX4_start_11 : decode cX4_start 11 = .ok (.iload_n 1, 1) := by decide +kernel
theorem dX4_start_12 : decode cX4_start 12 = .ok (.i2l, 1) := by decide +kernel
theorem dX4_start_13 : decode cX4_start 13 = .ok (.invokevirtual 26, 3) := by decide +kernel
theorem dX4_start_16 : decode cX4_start 16 = .ok (.return_, 1) := by decide +kernel
set_option maxRecDepth 20000 in
theorem ggX4_step_X5_fromFirst : GoodIn wsX4_step wsX5_fromFirst := goodIn_r _ [6, 7, 8, 9, 10, 5, 11, 12, 43, 44] (by decide +kernel) (by decide +kernel)
set_option maxRecDepth 20000 in
theorem gX4_step_X5_fromFirst : GoodIn wsX4_step (wsV RX4 30 RX5 yX5_fromFirst wsX5_fromFirst) := goodIn_app (goodIn_of _ (by decide +kernel)) ggX4_step_X5_fromFirst
set_option maxRecDepth 20000 in
theorem ggX4_step_X6_ruleOf : GoodIn wsX4_step wsX6_ruleOf := goodIn_r _ [17, 18, 19, 20, 21, 22, 23, 45, 46] (by decide +kernel) (by decide +kernel)
set_option maxRecDepth 20000 in
theorem gX4_step_X6_ruleOf : GoodIn wsX4_step (wsV RX4 34 RX6 yX6_ruleOf wsX6_ruleOf) := goodIn_app (goodIn_of _ (by decide +kernel)) ggX4_step_X6_ruleOf
set_option maxRecDepth 20000 in
theorem ggX4_step_X5_dropFirst : GoodIn wsX4_step wsX5_dropFirst := goodIn_r _ [27, 7, 28, 29, 30, 31, 43, 44] (by decide +kernel) (by decide +kernel)
set_option maxRecDepth 20000 in
theorem gX4_step_X5_dropFirst : GoodIn wsX4_step (wsV RX4 40 RX5 yX5_dropFirst wsX5_dropFirst) := goodIn_app (goodIn_of _ (by decide +kernel)) ggX4_step_X5_dropFirst
set_option maxRecDepth 20000 in
theorem ggX4_step_X5_putRowAhead : GoodIn wsX4_step wsX5_putRowAhead := goodIn_r _ [35, 36, 37, 38, 39, 5, 40, 7, 12, 43, 44] (by decide +kernel) (by decide +kernel)
set_option maxRecDepth 20000 in
theorem gX4_step_X5_putRowAhead : GoodIn wsX4_step (wsV RX4 26 RX5 yX5_putRowAhead wsX5_putRowAhead) := goodIn_app (goodIn_of _ (by decide +kernel)) ggX4_step_X5_putRowAhead
theorem dX4_step_0 : decode cX4_step 0 = .ok (.aload_n 1, 1) := by decide +kernel
theorem dX4_step_1 : decode cX4_step 1 = .ok (.aload_n 0, 1) := by decide +kernel
theorem dX4_step_2 : decode cX4_step 2 = .ok (.getfield 14, 3) := by decide +kernel
theorem dX4_step_5 : decode cX4_step 5 = .ok (.iconst 0, 1) := by decide +kernel
theorem dX4_step_6 : decode cX4_step 6 = .ok (.invokevirtual 30, 3) := by decide +kernel
theorem dX4_step_9 : decode cX4_step 9 = .ok (.iload_n 2, 1) := by decide +kernel
theorem dX4_step_10 : decode cX4_step 10 = .ok (.invokevirtual 34, 3) := by decide +kernel
theorem dX4_step_13 : decode cX4_step 13 = .ok (.istore_n 3, 1) := by decide +kernel
theorem dX4_step_14 : decode cX4_step 14 = .ok (.iload_n 3, 1) := by decide +kernel
theorem dX4_step_15 : decode cX4_step 15 = .ok (.bipush (-9), 2) := by decide +kernel
theorem dX4_step_17 : decode cX4_step 17 = .ok (.if_icmp .ne 5, 3) := by decide +kernel
theorem dX4_step_20 : decode cX4_step 20 = .ok (.iconst 0, 1) := by decide +kernel
theorem dX4_step_21 : decode cX4_step 21 = .ok (.ireturn, 1) := by decide +kernel
theorem dX4_step_22 : decode cX4_step 22 = .ok (.aload_n 0, 1) := by decide +kernel
theorem dX4_step_23 : decode cX4_step 23 = .ok (.getfield 14, 3) := by decide +kernel
theorem dX4_step_26 : decode cX4_step 26 = .ok (.invokevirtual 40, 3) := by decide +kernel
theorem dX4_step_29 : decode cX4_step 29 = .ok (.aload_n 0, 1) := by decide +kernel
theorem dX4_step_30 : decode cX4_step 30 = .ok (.getfield 14, 3) := by decide +kernel
theorem dX4_step_33 : decode cX4_step 33 = .ok (.iload_n 3, 1) := by decide +kernel
theorem dX4_step_34 : decode cX4_step 34 = .ok (.i2l, 1) := by decide +kernel
theorem dX4_step_35 : decode cX4_step 35 = .ok (.invokevirtual 26, 3) := by decide +kernel
theorem dX4_step_38 : decode cX4_step 38 = .ok (.iconst 1, 1) := by decide +kernel
theorem dX4_step_39 : decode cX4_step 39 = .ok (.ireturn, 1) := by decide +kernel
set_option maxRecDepth 20000 in
theorem ggX4_countRead_X4_start : GoodIn wsX4_countRead wsX4_start := goodIn_r _ [6, 7, 8, 9, 10, 11, 12, 13, 14, 15, 16, 17, 18, 19, 20, 21, 22, 23, 59, 60, 61, 62] (by decide +kernel) (by decide +kernel)
set_option maxRecDepth 20000 in
theorem gX4_countRead_X4_start : GoodIn wsX4_countRead (wsV RX4 43 RX4 yX4_start wsX4_start) := goodIn_app (goodIn_of _ (by decide +kernel)) ggX4_countRead_X4_start
set_option maxRecDepth 20000 in
theorem ggX4_countRead_X5_clear : GoodIn wsX4_countRead wsX5_clear := goodIn_r _ [12, 13, 61, 62] (by decide +kernel) (by decide +kernel)
set_option maxRecDepth 20000 in
theorem gX4_countRead_X5_clear : GoodIn wsX4_countRead (wsV RX4 23 RX5 yX5_clear wsX5_clear) := goodIn_app (goodIn_of _ (by decide +kernel)) ggX4_countRead_X5_clear
set_option maxRecDepth 20000 in
theorem ggX4_countRead_X5_putRowAhead : GoodIn wsX4_countRead wsX5_putRowAhead := goodIn_r _ [17, 18, 19, 20, 21, 11, 22, 13, 23, 61, 62] (by decide +kernel) (by decide +kernel)
set_option maxRecDepth 20000 in
theorem gX4_countRead_X5_putRowAhead : GoodIn wsX4_countRead (wsV RX4 26 RX5 yX5_putRowAhead wsX5_putRowAhead) := goodIn_app (goodIn_of _ (by decide +kernel)) ggX4_countRead_X5_putRowAhead
set_option maxRecDepth 20000 in
theorem ggX4_countRead_X5_size : GoodIn wsX4_countRead wsX5_size := goodIn_r _ [27, 13, 61, 62] (by decide +kernel) (by decide +kernel)
set_option maxRecDepth 20000 in
theorem gX4_countRead_X5_size : GoodIn wsX4_countRead (wsV RX4 46 RX5 yX5_size wsX5_size) := goodIn_app (goodIn_of _ (by decide +kernel)) ggX4_countRead_X5_size
set_option maxRecDepth 20000 in
theorem ggX4_countRead_X5_fromFirst : GoodIn wsX4_countRead wsX5_fromFirst := goodIn_r _ [31, 13, 32, 33, 34, 11, 35, 23, 61, 62] (by decide +kernel) (by decide +kernel)
set_option maxRecDepth 20000 in
theorem gX4_countRead_X5_fromFirst : GoodIn wsX4_countRead (wsV RX4 30 RX5 yX5_fromFirst wsX5_fromFirst) := goodIn_app (goodIn_of _ (by decide +kernel)) ggX4_countRead_X5_fromFirst
set_option maxRecDepth 20000 in
theorem ggX4_countRead_X4_step : GoodIn wsX4_countRead wsX4_step := goodIn_r _ [39, 7, 28, 29, 30, 11, 31, 13, 32, 33, 34, 35, 23, 40, 41, 42, 43, 44, 45, 46, 47, 48, 49, 50, 51, 52, 53, 54, 55, 56, 57, 58, 14, 15, 16, 17, 18, 19, 20, 21, 22, 59, 60, 61, 62, 63, 64] (by decide +kernel) (by decide +kernel)
set_option maxRecDepth 20000 in
theorem gX4_countRead_X4_step : GoodIn wsX4_countRead (wsV RX4 50 RX4 yX4_step wsX4_step) := goodIn_app (goodIn_of _ (by decide +kernel)) ggX4_countRead_X4_step
set_option maxRecDepth 20000 in
theorem ggX4_countRead_X5_dropFirst : GoodIn wsX4_countRead wsX5_dropFirst := goodIn_r _ [54, 13, 55, 56, 57, 58, 61, 62] (by decide +kernel) (by decide +kernel)
set_option maxRecDepth 20000 in
theorem gX4_countRead_X5_dropFirst : GoodIn wsX4_countRead (wsV RX4 40 RX5 yX5_dropFirst wsX5_dropFirst) := goodIn_app (goodIn_of _ (by decide +kernel)) ggX4_countRead_X5_dropFirst
theorem dX4_countRead_0 : decode cX4_countRead 0 = .ok (.aload_n 0, 1) := by decide +kernel
theorem dX4_countRead_1 : decode cX4_countRead 1 = .ok (.iload_n 2, 1) := by decide +kernel
theorem dX4_countRead_2 : decode cX4_countRead 2 = .ok (.invokevirtual 43, 3) := by decide +kernel
theorem dX4_countRead_5 : decode cX4_countRead 5 = .ok (.aload_n 0, 1) := by decide +kernel
theorem dX4_countRead_6 : decode cX4_countRead 6 = .ok (.getfield 20, 3) := by decide +kernel
theorem dX4_countRead_9 : decode cX4_countRead 9 = .ok (.invokevirtual 23, 3) := by decide +kernel
theorem dX4_countRead_12 : decode cX4_countRead 12 = .ok (.aload_n 0, 1) := by decide +kernel
theorem dX4_countRead_13 : decode cX4_countRead 13 = .ok (.getfield 20, 3) := by decide +kernel
theorem dX4_countRead_16 : decode cX4_countRead 16 = .ok (.lload_n 3, 1) := by decide +kernel
theorem dX4_countRead_17 : decode cX4_countRead 17 = .ok (.invokevirtual 26, 3) := by decide +kernel
theorem dX4_countRead_20 : decode cX4_countRead 20 = .ok (.iconst 0, 1) := by decide +kernel
theorem dX4_countRead_21 : decode cX4_countRead 21 = .ok (.istore 5, 2) := by decide +kernel
theorem dX4_countRead_23 : decode cX4_countRead 23 = .ok (.iload 5, 2) := by decide +kernel
theorem dX4_countRead_25 : decode cX4_countRead 25 = .ok (.bipush 12, 2) := by decide +kernel
theorem dX4_countRead_27 : decode cX4_countRead 27 = .ok (.if_icmp .ge 42, 3) := by decide +kernel
theorem dX4_countRead_30 : decode cX4_countRead 30 = .ok (.aload_n 0, 1) := by decide +kernel
theorem dX4_countRead_31 : decode cX4_countRead 31 = .ok (.getfield 20, 3) := by decide +kernel
theorem dX4_countRead_34 : decode cX4_countRead 34 = .ok (.invokevirtual 46, 3) := by decide +kernel
theorem dX4_countRead_37 : decode cX4_countRead 37 = .ok (.ifCond .le 32, 3) := by decide +kernel
theorem dX4_countRead_40 : decode cX4_countRead 40 = .ok (.aload_n 0, 1) := by decide +kernel
theorem dX4_countRead_41 : decode cX4_countRead 41 = .ok (.aload_n 1, 1) := by decide +kernel
theorem dX4_countRead_42 : decode cX4_countRead 42 = .ok (.aload_n 0, 1) := by decide +kernel
theorem dX4_countRead_43 : decode cX4_countRead 43 = .ok (.getfield 20, 3) := by decide +kernel
theorem dX4_countRead_46 : decode cX4_countRead 46 = .ok (.iconst 0, 1) := by decide +kernel
theorem dX4_countRead_47 : decode cX4_countRead 47 = .ok (.invokevirtual 30, 3) := by decide +kernel
theorem dX4_countRead_50 : decode cX4_countRead 50 = .ok (.invokevirtual 50, 3) := by decide +kernel
theorem dX4_countRead_53 : decode cX4_countRead 53 = .ok (.ifCond .eq 16, 3) := by decide +kernel
theorem dX4_countRead_56 : decode cX4_countRead 56 = .ok (.aload_n 0, 1) := by decide +kernel
theorem dX4_countRead_57 : decode cX4_countRead 57 = .ok (.getfield 20, 3) := by decide +kernel
theorem dX4_countRead_60 : decode cX4_countRead 60 = .ok (.invokevirtual 40, 3) := by decide +kernel
theorem dX4_countRead_63 : decode cX4_countRead 63 = .ok (.iinc 5 1, 3) := by decide +kernel
theorem dX4_countRead_66 : decode cX4_countRead 66 = .ok (.goto (-43), 3) := by decide +kernel
theorem dX4_countRead_69 : decode cX4_countRead 69 = .ok (.iload 5, 2) := by decide +kernel
theorem dX4_countRead_71 : decode cX4_countRead 71 = .ok (.ireturn, 1) := by decide +kernel
set_option maxRecDepth 20000 in
theorem ggX4_readsToEnd_X5_size : GoodIn wsX4_readsToEnd wsX5_size := goodIn_r _ [6, 7, 10, 11] (by decide +kernel) (by decide +kernel)
set_option maxRecDepth 20000 in
theorem gX4_readsToEnd_X5_size : GoodIn wsX4_readsToEnd (wsV RX4 46 RX5 yX5_size wsX5_size) := goodIn_app (goodIn_of _ (by decide +kernel)) ggX4_readsToEnd_X5_size
theorem dX4_readsToEnd_0 : decode cX4_readsToEnd 0 = .ok (.aload_n 0, 1) := by decide +kernel
theorem dX4_readsToEnd_1 : decode cX4_readsToEnd 1 = .ok (.getfield 20, 3) := by decide +kernel
theorem dX4_readsToEnd_4 : decode cX4_readsToEnd 4 = .ok (.invokevirtual 46, 3) := by decide +kernel
theorem dX4_readsToEnd_7 : decode cX4_readsToEnd 7 = .ok (.ifCond .ne 7, 3) := by decide +kernel
theorem dX4_readsToEnd_10 : decode cX4_readsToEnd 10 = .ok (.iconst 1, 1) := by decide +kernel
theorem dX4_readsToEnd_11 : decode cX4_readsToEnd 11 = .ok (.goto 4, 3) := by decide +kernel
theorem dX4_readsToEnd_14 : decode cX4_readsToEnd 14 = .ok (.iconst 0, 1) := by decide +kernel
theorem dX4_readsToEnd_15 : decode cX4_readsToEnd 15 = .ok (.ireturn, 1) := by decide +kernel
theorem dX5_init_0 : decode cX5_init 0 = .ok (.aload_n 0, 1) := by decide +kernel
theorem dX5_init_1 : decode cX5_init 1 = .ok (.invokespecial 3, 3) := by decide +kernel
theorem dX5_init_4 : decode cX5_init 4 = .ok (.aload_n 0, 1) := by decide +kernel
theorem dX5_init_5 : decode cX5_init 5 = .ok (.iload_n 1, 1) := by decide +kernel
theorem dX5_init_6 : decode cX5_init 6 = .ok (.iconst 0, 1) := by decide +kernel
theorem dX5_init_7 : decode cX5_init 7 = .ok (.invokestatic 9, 3) := by decide +kernel
theorem dX5_init_10 : decode cX5_init 10 = .ok (.newarray .int, 2) := by decide +kernel
theorem dX5_init_12 : decode cX5_init 12 = .ok (.putfield 15, 3) := by decide +kernel
theorem dX5_init_15 : decode cX5_init 15 = .ok (.return_, 1) := by decide +kernel
theorem dX5_clear_0 : decode cX5_clear 0 = .ok (.aload_n 0, 1) := by decide +kernel
theorem dX5_clear_1 : decode cX5_clear 1 = .ok (.iconst 0, 1) := by decide +kernel
theorem dX5_clear_2 : decode cX5_clear 2 = .ok (.putfield 21, 3) := by decide +kernel
theorem dX5_clear_5 : decode cX5_clear 5 = .ok (.return_, 1) := by decide +kernel
theorem dX5_size_0 : decode cX5_size 0 = .ok (.aload_n 0, 1) := by decide +kernel
theorem dX5_size_1 : decode cX5_size 1 = .ok (.getfield 21, 3) := by decide +kernel
theorem dX5_size_4 : decode cX5_size 4 = .ok (.ireturn, 1) := by decide +kernel
set_option maxRecDepth 20000 in
theorem ggX5_fromFirst_X5_fromLast : GoodIn wsX5_fromFirst wsX5_fromLast := goodIn_r _ [6, 1, 7, 8, 9] (by decide +kernel) (by decide +kernel)
set_option maxRecDepth 20000 in
theorem gX5_fromFirst_X5_fromLast : GoodIn wsX5_fromFirst (wsV RX5 25 RX5 yX5_fromLast wsX5_fromLast) := goodIn_app (goodIn_of _ (by decide +kernel)) ggX5_fromFirst_X5_fromLast
theorem dX5_fromFirst_0 : decode cX5_fromFirst 0 = .ok (.aload_n 0, 1) := by decide +kernel
theorem dX5_fromFirst_1 : decode cX5_fromFirst 1 = .ok (.aload_n 0, 1) := by decide +kernel
theorem dX5_fromFirst_2 : decode cX5_fromFirst 2 = .ok (.getfield 21, 3) := by decide +kernel
theorem dX5_fromFirst_5 : decode cX5_fromFirst 5 = .ok (.iconst 1, 1) := by decide +kernel
theorem dX5_fromFirst_6 : decode cX5_fromFirst 6 = .ok (.isub, 1) := by decide +kernel
theorem dX5_fromFirst_7 : decode cX5_fromFirst 7 = .ok (.iload_n 1, 1) := by decide +kernel
theorem dX5_fromFirst_8 : decode cX5_fromFirst 8 = .ok (.isub, 1) := by decide +kernel
theorem dX5_fromFirst_9 : decode cX5_fromFirst 9 = .ok (.invokevirtual 25, 3) := by decide +kernel
theorem dX5_fromFirst_12 : decode cX5_fromFirst 12 = .ok (.ireturn, 1) := by decide +kernel
theorem dX5_fromLast_0 : decode cX5_fromLast 0 = .ok (.iload_n 1, 1) := by decide +kernel
theorem dX5_fromLast_1 : decode cX5_fromLast 1 = .ok (.ifCond .lt 20, 3) := by decide +kernel
theorem dX5_fromLast_4 : decode cX5_fromLast 4 = .ok (.iload_n 1, 1) := by decide +kernel
theorem dX5_fromLast_5 : decode cX5_fromLast 5 = .ok (.aload_n 0, 1) := by decide +kernel
theorem dX5_fromLast_6 : decode cX5_fromLast 6 = .ok (.getfield 21, 3) := by decide +kernel
theorem dX5_fromLast_9 : decode cX5_fromLast 9 = .ok (.if_icmp .ge 12, 3) := by decide +kernel
theorem dX5_fromLast_12 : decode cX5_fromLast 12 = .ok (.iload_n 1, 1) := by decide +kernel
theorem dX5_fromLast_13 : decode cX5_fromLast 13 = .ok (.aload_n 0, 1) := by decide +kernel
theorem dX5_fromLast_14 : decode cX5_fromLast 14 = .ok (.getfield 15, 3) := by decide +kernel
theorem dX5_fromLast_17 : decode cX5_fromLast 17 = .ok (.arraylength, 1) := by decide +kernel
end
section
theorem dX5_fromLast_18 : decode cX5_fromLast 18 = .ok (.if_icmp .lt 8, 3) := by decide +kernel
theorem dX5_fromLast_21 : decode cX5_fromLast 21 = .ok (.bipush (-9), 2) := by decide +kernel
theorem dX5_fromLast_23 : decode cX5_fromLast 23 = .ok (.goto 9, 3) := by decide +kernel
theorem dX5_fromLast_26 : decode cX5_fromLast 26 = .ok (.aload_n 0, 1) := by decide +kernel
theorem dX5_fromLast_27 : decode cX5_fromLast 27 = .ok (.getfield 15, 3) := by decide +kernel
theorem dX5_fromLast_30 : decode cX5_fromLast 30 = .ok (.iload_n 1, 1) := by decide +kernel
theorem dX5_fromLast_31 : decode cX5_fromLast 31 = .ok (.iaload, 1) := by decide +kernel
theorem dX5_fromLast_32 : decode cX5_fromLast 32 = .ok (.ireturn, 1) := by decide +kernel
theorem dX5_dropFirst_0 : decode cX5_dropFirst 0 = .ok (.aload_n 0, 1) := by decide +kernel
theorem dX5_dropFirst_1 : decode cX5_dropFirst 1 = .ok (.aload_n 0, 1) := by decide +kernel
theorem dX5_dropFirst_2 : decode cX5_dropFirst 2 = .ok (.getfield 21, 3) := by decide +kernel
theorem dX5_dropFirst_5 : decode cX5_dropFirst 5 = .ok (.iconst 1, 1) := by decide +kernel
theorem dX5_dropFirst_6 : decode cX5_dropFirst 6 = .ok (.isub, 1) := by decide +kernel
theorem dX5_dropFirst_7 : decode cX5_dropFirst 7 = .ok (.iconst 0, 1) := by decide +kernel
theorem dX5_dropFirst_8 : decode cX5_dropFirst 8 = .ok (.invokestatic 9, 3) := by decide +kernel
theorem dX5_dropFirst_11 : decode cX5_dropFirst 11 = .ok (.putfield 21, 3) := by decide +kernel
theorem dX5_dropFirst_14 : decode cX5_dropFirst 14 = .ok (.return_, 1) := by decide +kernel
theorem dX5_putFirst_0 : decode cX5_putFirst 0 = .ok (.aload_n 0, 1) := by decide +kernel
theorem dX5_putFirst_1 : decode cX5_putFirst 1 = .ok (.getfield 21, 3) := by decide +kernel
theorem dX5_putFirst_4 : decode cX5_putFirst 4 = .ok (.aload_n 0, 1) := by decide +kernel
theorem dX5_putFirst_5 : decode cX5_putFirst 5 = .ok (.getfield 15, 3) := by decide +kernel
theorem dX5_putFirst_8 : decode cX5_putFirst 8 = .ok (.arraylength, 1) := by decide +kernel
theorem dX5_putFirst_9 : decode cX5_putFirst 9 = .ok (.if_icmp .ge 23, 3) := by decide +kernel
theorem dX5_putFirst_12 : decode cX5_putFirst 12 = .ok (.aload_n 0, 1) := by decide +kernel
theorem dX5_putFirst_13 : decode cX5_putFirst 13 = .ok (.getfield 15, 3) := by decide +kernel
theorem dX5_putFirst_16 : decode cX5_putFirst 16 = .ok (.aload_n 0, 1) := by decide +kernel
theorem dX5_putFirst_17 : decode cX5_putFirst 17 = .ok (.getfield 21, 3) := by decide +kernel
theorem dX5_putFirst_20 : decode cX5_putFirst 20 = .ok (.iload_n 1, 1) := by decide +kernel
theorem dX5_putFirst_21 : decode cX5_putFirst 21 = .ok (.iastore, 1) := by decide +kernel
theorem dX5_putFirst_22 : decode cX5_putFirst 22 = .ok (.aload_n 0, 1) := by decide +kernel
theorem dX5_putFirst_23 : decode cX5_putFirst 23 = .ok (.dup, 1) := by decide +kernel
theorem dX5_putFirst_24 : decode cX5_putFirst 24 = .ok (.getfield 21, 3) := by decide +kernel
theorem dX5_putFirst_27 : decode cX5_putFirst 27 = .ok (.iconst 1, 1) := by decide +kernel
theorem dX5_putFirst_28 : decode cX5_putFirst 28 = .ok (.iadd, 1) := by decide +kernel
theorem dX5_putFirst_29 : decode cX5_putFirst 29 = .ok (.putfield 21, 3) := by decide +kernel
theorem dX5_putFirst_32 : decode cX5_putFirst 32 = .ok (.return_, 1) := by decide +kernel
set_option maxRecDepth 20000 in
theorem ggX5_putRowAhead_X5_putFirst : GoodIn wsX5_putRowAhead wsX5_putFirst := goodIn_r _ [6, 7, 8, 9, 10] (by decide +kernel) (by decide +kernel)
set_option maxRecDepth 20000 in
theorem gX5_putRowAhead_X5_putFirst : GoodIn wsX5_putRowAhead (wsV RX5 31 RX5 yX5_putFirst wsX5_putFirst) := goodIn_app (goodIn_of _ (by decide +kernel)) ggX5_putRowAhead_X5_putFirst
theorem dX5_putRowAhead_0 : decode cX5_putRowAhead 0 = .ok (.lload_n 1, 1) := by decide +kernel
theorem dX5_putRowAhead_1 : decode cX5_putRowAhead 1 = .ok (.lstore_n 3, 1) := by decide +kernel
theorem dX5_putRowAhead_2 : decode cX5_putRowAhead 2 = .ok (.lload_n 3, 1) := by decide +kernel
theorem dX5_putRowAhead_3 : decode cX5_putRowAhead 3 = .ok (.lconst 0, 1) := by decide +kernel
theorem dX5_putRowAhead_4 : decode cX5_putRowAhead 4 = .ok (.lcmp, 1) := by decide +kernel
theorem dX5_putRowAhead_5 : decode cX5_putRowAhead 5 = .ok (.ifCond .le 24, 3) := by decide +kernel
theorem dX5_putRowAhead_8 : decode cX5_putRowAhead 8 = .ok (.aload_n 0, 1) := by decide +kernel
theorem dX5_putRowAhead_9 : decode cX5_putRowAhead 9 = .ok (.lload_n 3, 1) := by decide +kernel
theorem dX5_putRowAhead_10 : decode cX5_putRowAhead 10 = .ok (.ldc2_w 29, 3) := by decide +kernel
theorem dX5_putRowAhead_13 : decode cX5_putRowAhead 13 = .ok (.lrem, 1) := by decide +kernel
theorem dX5_putRowAhead_14 : decode cX5_putRowAhead 14 = .ok (.l2i, 1) := by decide +kernel
theorem dX5_putRowAhead_15 : decode cX5_putRowAhead 15 = .ok (.iconst 1, 1) := by decide +kernel
theorem dX5_putRowAhead_16 : decode cX5_putRowAhead 16 = .ok (.isub, 1) := by decide +kernel
theorem dX5_putRowAhead_17 : decode cX5_putRowAhead 17 = .ok (.invokevirtual 31, 3) := by decide +kernel
theorem dX5_putRowAhead_20 : decode cX5_putRowAhead 20 = .ok (.lload_n 3, 1) := by decide +kernel
theorem dX5_putRowAhead_21 : decode cX5_putRowAhead 21 = .ok (.ldc2_w 29, 3) := by decide +kernel
theorem dX5_putRowAhead_24 : decode cX5_putRowAhead 24 = .ok (.ldiv, 1) := by decide +kernel
theorem dX5_putRowAhead_25 : decode cX5_putRowAhead 25 = .ok (.lstore_n 3, 1) := by decide +kernel
theorem dX5_putRowAhead_26 : decode cX5_putRowAhead 26 = .ok (.goto (-24), 3) := by decide +kernel
theorem dX5_putRowAhead_29 : decode cX5_putRowAhead 29 = .ok (.return_, 1) := by decide +kernel
theorem dX5_putAllAhead_0 : decode cX5_putAllAhead 0 = .ok (.aload_n 1, 1) := by decide +kernel
theorem dX5_putAllAhead_1 : decode cX5_putAllAhead 1 = .ok (.getfield 21, 3) := by decide +kernel
theorem dX5_putAllAhead_4 : decode cX5_putAllAhead 4 = .ok (.aload_n 0, 1) := by decide +kernel
theorem dX5_putAllAhead_5 : decode cX5_putAllAhead 5 = .ok (.getfield 15, 3) := by decide +kernel
theorem dX5_putAllAhead_8 : decode cX5_putAllAhead 8 = .ok (.arraylength, 1) := by decide +kernel
theorem dX5_putAllAhead_9 : decode cX5_putAllAhead 9 = .ok (.aload_n 0, 1) := by decide +kernel
theorem dX5_putAllAhead_10 : decode cX5_putAllAhead 10 = .ok (.getfield 21, 3) := by decide +kernel
theorem dX5_putAllAhead_13 : decode cX5_putAllAhead 13 = .ok (.isub, 1) := by decide +kernel
theorem dX5_putAllAhead_14 : decode cX5_putAllAhead 14 = .ok (.if_icmp .gt 36, 3) := by decide +kernel
theorem dX5_putAllAhead_17 : decode cX5_putAllAhead 17 = .ok (.aload_n 1, 1) := by decide +kernel
theorem dX5_putAllAhead_18 : decode cX5_putAllAhead 18 = .ok (.getfield 15, 3) := by decide +kernel
theorem dX5_putAllAhead_21 : decode cX5_putAllAhead 21 = .ok (.iconst 0, 1) := by decide +kernel
theorem dX5_putAllAhead_22 : decode cX5_putAllAhead 22 = .ok (.aload_n 0, 1) := by decide +kernel
theorem dX5_putAllAhead_23 : decode cX5_putAllAhead 23 = .ok (.getfield 15, 3) := by decide +kernel
theorem dX5_putAllAhead_26 : decode cX5_putAllAhead 26 = .ok (.aload_n 0, 1) := by decide +kernel
theorem dX5_putAllAhead_27 : decode cX5_putAllAhead 27 = .ok (.getfield 21, 3) := by decide +kernel
theorem dX5_putAllAhead_30 : decode cX5_putAllAhead 30 = .ok (.aload_n 1, 1) := by decide +kernel
theorem dX5_putAllAhead_31 : decode cX5_putAllAhead 31 = .ok (.getfield 21, 3) := by decide +kernel
theorem dX5_putAllAhead_34 : decode cX5_putAllAhead 34 = .ok (.invokestatic 35, 3) := by decide +kernel
theorem dX5_putAllAhead_37 : decode cX5_putAllAhead 37 = .ok (.aload_n 0, 1) := by decide +kernel
theorem dX5_putAllAhead_38 : decode cX5_putAllAhead 38 = .ok (.dup, 1) := by decide +kernel
theorem dX5_putAllAhead_39 : decode cX5_putAllAhead 39 = .ok (.getfield 21, 3) := by decide +kernel
theorem dX5_putAllAhead_42 : decode cX5_putAllAhead 42 = .ok (.aload_n 1, 1) := by decide +kernel
theorem dX5_putAllAhead_43 : decode cX5_putAllAhead 43 = .ok (.getfield 21, 3) := by decide +kernel
theorem dX5_putAllAhead_46 : decode cX5_putAllAhead 46 = .ok (.iadd, 1) := by decide +kernel
theorem dX5_putAllAhead_47 : decode cX5_putAllAhead 47 = .ok (.putfield 21, 3) := by decide +kernel
theorem dX5_putAllAhead_50 : decode cX5_putAllAhead 50 = .ok (.return_, 1) := by decide +kernel
set_option maxRecDepth 20000 in
theorem ggX5_sameFromFirst_X5_fromFirst : GoodIn wsX5_sameFromFirst wsX5_fromFirst := goodIn_r _ [10, 1, 11, 12, 13, 9, 14, 15, 16, 17] (by decide +kernel) (by decide +kernel)
set_option maxRecDepth 20000 in
theorem gX5_sameFromFirst_X5_fromFirst : GoodIn wsX5_sameFromFirst (wsV RX5 44 RX5 yX5_fromFirst wsX5_fromFirst) := goodIn_app (goodIn_of _ (by decide +kernel)) ggX5_sameFromFirst_X5_fromFirst
theorem dX5_sameFromFirst_0 : decode cX5_sameFromFirst 0 = .ok (.aload_n 0, 1) := by decide +kernel
theorem dX5_sameFromFirst_1 : decode cX5_sameFromFirst 1 = .ok (.getfield 21, 3) := by decide +kernel
theorem dX5_sameFromFirst_4 : decode cX5_sameFromFirst 4 = .ok (.aload_n 1, 1) := by decide +kernel
theorem dX5_sameFromFirst_5 : decode cX5_sameFromFirst 5 = .ok (.getfield 21, 3) := by decide +kernel
theorem dX5_sameFromFirst_8 : decode cX5_sameFromFirst 8 = .ok (.invokestatic 41, 3) := by decide +kernel
theorem dX5_sameFromFirst_11 : decode cX5_sameFromFirst 11 = .ok (.istore_n 2, 1) := by decide +kernel
theorem dX5_sameFromFirst_12 : decode cX5_sameFromFirst 12 = .ok (.iconst 0, 1) := by decide +kernel
theorem dX5_sameFromFirst_13 : decode cX5_sameFromFirst 13 = .ok (.istore_n 3, 1) := by decide +kernel
theorem dX5_sameFromFirst_14 : decode cX5_sameFromFirst 14 = .ok (.iload_n 3, 1) := by decide +kernel
theorem dX5_sameFromFirst_15 : decode cX5_sameFromFirst 15 = .ok (.iload_n 2, 1) := by decide +kernel
theorem dX5_sameFromFirst_16 : decode cX5_sameFromFirst 16 = .ok (.if_icmp .ge 22, 3) := by decide +kernel
theorem dX5_sameFromFirst_19 : decode cX5_sameFromFirst 19 = .ok (.aload_n 0, 1) := by decide +kernel
theorem dX5_sameFromFirst_20 : decode cX5_sameFromFirst 20 = .ok (.iload_n 3, 1) := by decide +kernel
theorem dX5_sameFromFirst_21 : decode cX5_sameFromFirst 21 = .ok (.invokevirtual 44, 3) := by decide +kernel
theorem dX5_sameFromFirst_24 : decode cX5_sameFromFirst 24 = .ok (.aload_n 1, 1) := by decide +kernel
theorem dX5_sameFromFirst_25 : decode cX5_sameFromFirst 25 = .ok (.iload_n 3, 1) := by decide +kernel
theorem dX5_sameFromFirst_26 : decode cX5_sameFromFirst 26 = .ok (.invokevirtual 44, 3) := by decide +kernel
theorem dX5_sameFromFirst_29 : decode cX5_sameFromFirst 29 = .ok (.if_icmp .ne 9, 3) := by decide +kernel
theorem dX5_sameFromFirst_32 : decode cX5_sameFromFirst 32 = .ok (.iinc 3 1, 3) := by decide +kernel
theorem dX5_sameFromFirst_35 : decode cX5_sameFromFirst 35 = .ok (.goto (-21), 3) := by decide +kernel
theorem dX5_sameFromFirst_38 : decode cX5_sameFromFirst 38 = .ok (.iload_n 3, 1) := by decide +kernel
theorem dX5_sameFromFirst_39 : decode cX5_sameFromFirst 39 = .ok (.ireturn, 1) := by decide +kernel
set_option maxRecDepth 20000 in
theorem ggX5_sameFromLast_X5_fromLast : GoodIn wsX5_sameFromLast wsX5_fromLast := goodIn_r _ [10, 1, 11, 12, 13] (by decide +kernel) (by decide +kernel)
set_option maxRecDepth 20000 in
theorem gX5_sameFromLast_X5_fromLast : GoodIn wsX5_sameFromLast (wsV RX5 25 RX5 yX5_fromLast wsX5_fromLast) := goodIn_app (goodIn_of _ (by decide +kernel)) ggX5_sameFromLast_X5_fromLast
theorem dX5_sameFromLast_0 : decode cX5_sameFromLast 0 = .ok (.aload_n 0, 1) := by decide +kernel
theorem dX5_sameFromLast_1 : decode cX5_sameFromLast 1 = .ok (.getfield 21, 3) := by decide +kernel
theorem dX5_sameFromLast_4 : decode cX5_sameFromLast 4 = .ok (.aload_n 1, 1) := by decide +kernel
theorem dX5_sameFromLast_5 : decode cX5_sameFromLast 5 = .ok (.getfield 21, 3) := by decide +kernel
theorem dX5_sameFromLast_8 : decode cX5_sameFromLast 8 = .ok (.invokestatic 41, 3) := by decide +kernel
theorem dX5_sameFromLast_11 : decode cX5_sameFromLast 11 = .ok (.istore_n 2, 1) := by decide +kernel
theorem dX5_sameFromLast_12 : decode cX5_sameFromLast 12 = .ok (.iconst 0, 1) := by decide +kernel
theorem dX5_sameFromLast_13 : decode cX5_sameFromLast 13 = .ok (.istore_n 3, 1) := by decide +kernel
theorem dX5_sameFromLast_14 : decode cX5_sameFromLast 14 = .ok (.iload_n 3, 1) := by decide +kernel
theorem dX5_sameFromLast_15 : decode cX5_sameFromLast 15 = .ok (.iload_n 2, 1) := by decide +kernel
theorem dX5_sameFromLast_16 : decode cX5_sameFromLast 16 = .ok (.if_icmp .ge 22, 3) := by decide +kernel
theorem dX5_sameFromLast_19 : decode cX5_sameFromLast 19 = .ok (.aload_n 0, 1) := by decide +kernel
theorem dX5_sameFromLast_20 : decode cX5_sameFromLast 20 = .ok (.iload_n 3, 1) := by decide +kernel
theorem dX5_sameFromLast_21 : decode cX5_sameFromLast 21 = .ok (.invokevirtual 25, 3) := by decide +kernel
theorem dX5_sameFromLast_24 : decode cX5_sameFromLast 24 = .ok (.aload_n 1, 1) := by decide +kernel
theorem dX5_sameFromLast_25 : decode cX5_sameFromLast 25 = .ok (.iload_n 3, 1) := by decide +kernel
theorem dX5_sameFromLast_26 : decode cX5_sameFromLast 26 = .ok (.invokevirtual 25, 3) := by decide +kernel
theorem dX5_sameFromLast_29 : decode cX5_sameFromLast 29 = .ok (.if_icmp .ne 9, 3) := by decide +kernel
theorem dX5_sameFromLast_32 : decode cX5_sameFromLast 32 = .ok (.iinc 3 1, 3) := by decide +kernel
theorem dX5_sameFromLast_35 : decode cX5_sameFromLast 35 = .ok (.goto (-21), 3) := by decide +kernel
theorem dX5_sameFromLast_38 : decode cX5_sameFromLast 38 = .ok (.iload_n 3, 1) := by decide +kernel
theorem dX5_sameFromLast_39 : decode cX5_sameFromLast 39 = .ok (.ireturn, 1) := by decide +kernel
set_option maxRecDepth 20000 in
theorem ggX5_isSame_X5_sameFromLast : GoodIn wsX5_isSame wsX5_sameFromLast := goodIn_r _ [6, 1, 7, 8, 9, 10, 11, 12, 13, 5, 14, 15, 16, 17] (by decide +kernel) (by decide +kernel)
set_option maxRecDepth 20000 in
theorem gX5_isSame_X5_sameFromLast : GoodIn wsX5_isSame (wsV RX5 47 RX5 yX5_sameFromLast wsX5_sameFromLast) := goodIn_app (goodIn_of _ (by decide +kernel)) ggX5_isSame_X5_sameFromLast
theorem dX5_isSame_0 : decode cX5_isSame 0 = .ok (.aload_n 0, 1) := by decide +kernel
theorem dX5_isSame_1 : decode cX5_isSame 1 = .ok (.getfield 21, 3) := by decide +kernel
theorem dX5_isSame_4 : decode cX5_isSame 4 = .ok (.aload_n 1, 1) := by decide +kernel
theorem dX5_isSame_5 : decode cX5_isSame 5 = .ok (.getfield 21, 3) := by decide +kernel
theorem dX5_isSame_8 : decode cX5_isSame 8 = .ok (.if_icmp .ne 19, 3) := by decide +kernel
theorem dX5_isSame_11 : decode cX5_isSame 11 = .ok (.aload_n 0, 1) := by decide +kernel
theorem dX5_isSame_12 : decode cX5_isSame 12 = .ok (.aload_n 1, 1) := by decide +kernel
theorem dX5_isSame_13 : decode cX5_isSame 13 = .ok (.invokevirtual 47, 3) := by decide +kernel
theorem dX5_isSame_16 : decode cX5_isSame 16 = .ok (.aload_n 0, 1) := by decide +kernel
theorem dX5_isSame_17 : decode cX5_isSame 17 = .ok (.getfield 21, 3) := by decide +kernel
theorem dX5_isSame_20 : decode cX5_isSame 20 = .ok (.if_icmp .ne 7, 3) := by decide +kernel
theorem dX5_isSame_23 : decode cX5_isSame 23 = .ok (.iconst 1, 1) := by decide +kernel
theorem dX5_isSame_24 : decode cX5_isSame 24 = .ok (.goto 4, 3) := by decide +kernel
theorem dX5_isSame_27 : decode cX5_isSame 27 = .ok (.iconst 0, 1) := by decide +kernel
theorem dX5_isSame_28 : decode cX5_isSame 28 = .ok (.ireturn, 1) := by decide +kernel
set_option maxRecDepth 20000 in
theorem ggX6_init_J7_fill_53178 : GoodIn wsX6_init wsJ7_fill_53178 := goodIn_r _ [10] (by decide +kernel) (by decide +kernel)
set_option maxRecDepth 20000 in
theorem gX6_init_J7_fill_53178 : GoodIn wsX6_init (va_wsS RX6 18 yJ7_fill_53178 wsJ7_fill_53178) := goodIn_app (goodIn_of _ (by decide +kernel)) ggX6_init_J7_fill_53178
theorem dX6_init_0 : decode cX6_init 0 = .ok (.aload_n 0, 1) := by decide +kernel
theorem dX6_init_1 : decode cX6_init 1 = .ok (.invokespecial 3, 3) := by decide +kernel
theorem dX6_init_4 : decode cX6_init 4 = .ok (.aload_n 0, 1) := by decide +kernel
theorem dX6_init_5 : decode cX6_init 5 = .ok (.bipush 18, 2) := by decide +kernel
theorem dX6_init_7 : decode cX6_init 7 = .ok (.newarray .int, 2) := by decide +kernel
theorem dX6_init_9 : decode cX6_init 9 = .ok (.putfield 9, 3) := by decide +kernel
theorem dX6_init_12 : decode cX6_init 12 = .ok (.aload_n 0, 1) := by decide +kernel
theorem dX6_init_13 : decode cX6_init 13 = .ok (.bipush 6, 2) := by decide +kernel
theorem dX6_init_15 : decode cX6_init 15 = .ok (.newarray .int, 2) := by decide +kernel
theorem dX6_init_17 : decode cX6_init 17 = .ok (.putfield 15, 3) := by decide +kernel
theorem dX6_init_20 : decode cX6_init 20 = .ok (.aload_n 0, 1) := by decide +kernel
theorem dX6_init_21 : decode cX6_init 21 = .ok (.getfield 9, 3) := by decide +kernel
theorem dX6_init_24 : decode cX6_init 24 = .ok (.bipush (-9), 2) := by decide +kernel
theorem dX6_init_26 : decode cX6_init 26 = .ok (.invokestatic 18, 3) := by decide +kernel
theorem dX6_init_29 : decode cX6_init 29 = .ok (.aload_n 0, 1) := by decide +kernel
theorem dX6_init_30 : decode cX6_init 30 = .ok (.getfield 15, 3) := by decide +kernel
theorem dX6_init_33 : decode cX6_init 33 = .ok (.bipush (-9), 2) := by decide +kernel
theorem dX6_init_35 : decode cX6_init 35 = .ok (.invokestatic 18, 3) := by decide +kernel
theorem dX6_init_38 : decode cX6_init 38 = .ok (.return_, 1) := by decide +kernel
set_option maxRecDepth 20000 in
theorem ggX6_ruleOf_X7_isSign : GoodIn wsX6_ruleOf wsX7_isSign := goodIn_r _ [4] (by decide +kernel) (by decide +kernel)
set_option maxRecDepth 20000 in
theorem gX6_ruleOf_X7_isSign_n24 : GoodIn wsX6_ruleOf (wsX7_isSign) := ggX6_ruleOf_X7_isSign
set_option maxRecDepth 20000 in
theorem ggX6_ruleOf_X7_isLetter : GoodIn wsX6_ruleOf wsX7_isLetter := goodIn_r _ [6] (by decide +kernel) (by decide +kernel)
set_option maxRecDepth 20000 in
theorem gX6_ruleOf_X7_isLetter_n28 : GoodIn wsX6_ruleOf (wsX7_isLetter) := ggX6_ruleOf_X7_isLetter
theorem dX6_ruleOf_0 : decode cX6_ruleOf 0 = .ok (.iload_n 1, 1) := by decide +kernel
theorem dX6_ruleOf_1 : decode cX6_ruleOf 1 = .ok (.invokestatic 24, 3) := by decide +kernel
theorem dX6_ruleOf_4 : decode cX6_ruleOf 4 = .ok (.ifCond .eq 23, 3) := by decide +kernel
theorem dX6_ruleOf_7 : decode cX6_ruleOf 7 = .ok (.iload_n 2, 1) := by decide +kernel
theorem dX6_ruleOf_8 : decode cX6_ruleOf 8 = .ok (.invokestatic 28, 3) := by decide +kernel
theorem dX6_ruleOf_11 : decode cX6_ruleOf 11 = .ok (.ifCond .eq 16, 3) := by decide +kernel
theorem dX6_ruleOf_14 : decode cX6_ruleOf 14 = .ok (.aload_n 0, 1) := by decide +kernel
theorem dX6_ruleOf_15 : decode cX6_ruleOf 15 = .ok (.getfield 9, 3) := by decide +kernel
theorem dX6_ruleOf_18 : decode cX6_ruleOf 18 = .ok (.iload_n 1, 1) := by decide +kernel
theorem dX6_ruleOf_19 : decode cX6_ruleOf 19 = .ok (.iconst 3, 1) := by decide +kernel
theorem dX6_ruleOf_20 : decode cX6_ruleOf 20 = .ok (.imul, 1) := by decide +kernel
theorem dX6_ruleOf_21 : decode cX6_ruleOf 21 = .ok (.iload_n 2, 1) := by decide +kernel
theorem dX6_ruleOf_22 : decode cX6_ruleOf 22 = .ok (.iadd, 1) := by decide +kernel
theorem dX6_ruleOf_23 : decode cX6_ruleOf 23 = .ok (.iaload, 1) := by decide +kernel
theorem dX6_ruleOf_24 : decode cX6_ruleOf 24 = .ok (.goto 5, 3) := by decide +kernel
theorem dX6_ruleOf_27 : decode cX6_ruleOf 27 = .ok (.bipush (-9), 2) := by decide +kernel
theorem dX6_ruleOf_29 : decode cX6_ruleOf 29 = .ok (.ireturn, 1) := by decide +kernel
set_option maxRecDepth 20000 in
theorem ggX6_setRule_X7_isSign : GoodIn wsX6_setRule wsX7_isSign := goodIn_r _ [4] (by decide +kernel) (by decide +kernel)
set_option maxRecDepth 20000 in
theorem gX6_setRule_X7_isSign_n24 : GoodIn wsX6_setRule (wsX7_isSign) := ggX6_setRule_X7_isSign
set_option maxRecDepth 20000 in
theorem ggX6_setRule_X7_isLetter : GoodIn wsX6_setRule wsX7_isLetter := goodIn_r _ [6] (by decide +kernel) (by decide +kernel)
set_option maxRecDepth 20000 in
theorem gX6_setRule_X7_isLetter_n28 : GoodIn wsX6_setRule (wsX7_isLetter) := ggX6_setRule_X7_isLetter
theorem dX6_setRule_0 : decode cX6_setRule 0 = .ok (.iload_n 1, 1) := by decide +kernel
theorem dX6_setRule_1 : decode cX6_setRule 1 = .ok (.invokestatic 24, 3) := by decide +kernel
theorem dX6_setRule_4 : decode cX6_setRule 4 = .ok (.ifCond .eq 21, 3) := by decide +kernel
theorem dX6_setRule_7 : decode cX6_setRule 7 = .ok (.iload_n 2, 1) := by decide +kernel
theorem dX6_setRule_8 : decode cX6_setRule 8 = .ok (.invokestatic 28, 3) := by decide +kernel
theorem dX6_setRule_11 : decode cX6_setRule 11 = .ok (.ifCond .eq 14, 3) := by decide +kernel
theorem dX6_setRule_14 : decode cX6_setRule 14 = .ok (.aload_n 0, 1) := by decide +kernel
theorem dX6_setRule_15 : decode cX6_setRule 15 = .ok (.getfield 9, 3) := by decide +kernel
theorem dX6_setRule_18 : decode cX6_setRule 18 = .ok (.iload_n 1, 1) := by decide +kernel
theorem dX6_setRule_19 : decode cX6_setRule 19 = .ok (.iconst 3, 1) := by decide +kernel
theorem dX6_setRule_20 : decode cX6_setRule 20 = .ok (.imul, 1) := by decide +kernel
theorem dX6_setRule_21 : decode cX6_setRule 21 = .ok (.iload_n 2, 1) := by decide +kernel
theorem dX6_setRule_22 : decode cX6_setRule 22 = .ok (.iadd, 1) := by decide +kernel
theorem dX6_setRule_23 : decode cX6_setRule 23 = .ok (.iload_n 3, 1) := by decide +kernel
theorem dX6_setRule_24 : decode cX6_setRule 24 = .ok (.iastore, 1) := by decide +kernel
theorem dX6_setRule_25 : decode cX6_setRule 25 = .ok (.return_, 1) := by decide +kernel
set_option maxRecDepth 20000 in
theorem ggX6_claimOf_X7_isSign : GoodIn wsX6_claimOf wsX7_isSign := goodIn_r _ [4] (by decide +kernel) (by decide +kernel)
set_option maxRecDepth 20000 in
theorem gX6_claimOf_X7_isSign_n24 : GoodIn wsX6_claimOf (wsX7_isSign) := ggX6_claimOf_X7_isSign
theorem dX6_claimOf_0 : decode cX6_claimOf 0 = .ok (.iload_n 1, 1) := by decide +kernel
theorem dX6_claimOf_1 : decode cX6_claimOf 1 = .ok (.invokestatic 24, 3) := by decide +kernel
theorem dX6_claimOf_4 : decode cX6_claimOf 4 = .ok (.ifCond .eq 12, 3) := by decide +kernel
theorem dX6_claimOf_7 : decode cX6_claimOf 7 = .ok (.aload_n 0, 1) := by decide +kernel
theorem dX6_claimOf_8 : decode cX6_claimOf 8 = .ok (.getfield 15, 3) := by decide +kernel
theorem dX6_claimOf_11 : decode cX6_claimOf 11 = .ok (.iload_n 1, 1) := by decide +kernel
theorem dX6_claimOf_12 : decode cX6_claimOf 12 = .ok (.iaload, 1) := by decide +kernel
theorem dX6_claimOf_13 : decode cX6_claimOf 13 = .ok (.goto 5, 3) := by decide +kernel
theorem dX6_claimOf_16 : decode cX6_claimOf 16 = .ok (.bipush (-9), 2) := by decide +kernel
theorem dX6_claimOf_18 : decode cX6_claimOf 18 = .ok (.ireturn, 1) := by decide +kernel
set_option maxRecDepth 20000 in
theorem ggX6_setClaim_X7_isSign : GoodIn wsX6_setClaim wsX7_isSign := goodIn_r _ [4] (by decide +kernel) (by decide +kernel)
set_option maxRecDepth 20000 in
theorem gX6_setClaim_X7_isSign_n24 : GoodIn wsX6_setClaim (wsX7_isSign) := ggX6_setClaim_X7_isSign
theorem dX6_setClaim_0 : decode cX6_setClaim 0 = .ok (.iload_n 1, 1) := by decide +kernel
theorem dX6_setClaim_1 : decode cX6_setClaim 1 = .ok (.invokestatic 24, 3) := by decide +kernel
theorem dX6_setClaim_4 : decode cX6_setClaim 4 = .ok (.ifCond .eq 10, 3) := by decide +kernel
theorem dX6_setClaim_7 : decode cX6_setClaim 7 = .ok (.aload_n 0, 1) := by decide +kernel
theorem dX6_setClaim_8 : decode cX6_setClaim 8 = .ok (.getfield 15, 3) := by decide +kernel
theorem dX6_setClaim_11 : decode cX6_setClaim 11 = .ok (.iload_n 1, 1) := by decide +kernel
theorem dX6_setClaim_12 : decode cX6_setClaim 12 = .ok (.iload_n 2, 1) := by decide +kernel
theorem dX6_setClaim_13 : decode cX6_setClaim 13 = .ok (.iastore, 1) := by decide +kernel
theorem dX6_setClaim_14 : decode cX6_setClaim 14 = .ok (.return_, 1) := by decide +kernel
set_option maxRecDepth 20000 in
theorem ggX6_countRules_X6_countPresent : GoodIn wsX6_countRules wsX6_countPresent := goodIn_r _ [5] (by decide +kernel) (by decide +kernel)
set_option maxRecDepth 20000 in
theorem gX6_countRules_X6_countPresent : GoodIn wsX6_countRules (va_wsS RX6 31 yX6_countPresent wsX6_countPresent) := goodIn_app (goodIn_of _ (by decide +kernel)) ggX6_countRules_X6_countPresent
theorem dX6_countRules_0 : decode cX6_countRules 0 = .ok (.aload_n 0, 1) := by decide +kernel
theorem dX6_countRules_1 : decode cX6_countRules 1 = .ok (.getfield 9, 3) := by decide +kernel
theorem dX6_countRules_4 : decode cX6_countRules 4 = .ok (.invokestatic 31, 3) := by decide +kernel
theorem dX6_countRules_7 : decode cX6_countRules 7 = .ok (.ireturn, 1) := by decide +kernel
set_option maxRecDepth 20000 in
theorem ggX6_countClaims_X6_countPresent : GoodIn wsX6_countClaims wsX6_countPresent := goodIn_r _ [5] (by decide +kernel) (by decide +kernel)
set_option maxRecDepth 20000 in
theorem gX6_countClaims_X6_countPresent : GoodIn wsX6_countClaims (va_wsS RX6 31 yX6_countPresent wsX6_countPresent) := goodIn_app (goodIn_of _ (by decide +kernel)) ggX6_countClaims_X6_countPresent
theorem dX6_countClaims_0 : decode cX6_countClaims 0 = .ok (.aload_n 0, 1) := by decide +kernel
theorem dX6_countClaims_1 : decode cX6_countClaims 1 = .ok (.getfield 15, 3) := by decide +kernel
theorem dX6_countClaims_4 : decode cX6_countClaims 4 = .ok (.invokestatic 31, 3) := by decide +kernel
theorem dX6_countClaims_7 : decode cX6_countClaims 7 = .ok (.ireturn, 1) := by decide +kernel
theorem dX6_countPresent_0 : decode cX6_countPresent 0 = .ok (.iconst 0, 1) := by decide +kernel
theorem dX6_countPresent_1 : decode cX6_countPresent 1 = .ok (.istore_n 1, 1) := by decide +kernel
theorem dX6_countPresent_2 : decode cX6_countPresent 2 = .ok (.aload_n 0, 1) := by decide +kernel
theorem dX6_countPresent_3 : decode cX6_countPresent 3 = .ok (.astore_n 2, 1) := by decide +kernel
theorem dX6_countPresent_4 : decode cX6_countPresent 4 = .ok (.aload_n 2, 1) := by decide +kernel
theorem dX6_countPresent_5 : decode cX6_countPresent 5 = .ok (.arraylength, 1) := by decide +kernel
theorem dX6_countPresent_6 : decode cX6_countPresent 6 = .ok (.istore_n 3, 1) := by decide +kernel
theorem dX6_countPresent_7 : decode cX6_countPresent 7 = .ok (.iconst 0, 1) := by decide +kernel
theorem dX6_countPresent_8 : decode cX6_countPresent 8 = .ok (.istore 4, 2) := by decide +kernel
theorem dX6_countPresent_10 : decode cX6_countPresent 10 = .ok (.iload 4, 2) := by decide +kernel
theorem dX6_countPresent_12 : decode cX6_countPresent 12 = .ok (.iload_n 3, 1) := by decide +kernel
theorem dX6_countPresent_13 : decode cX6_countPresent 13 = .ok (.if_icmp .ge 25, 3) := by decide +kernel
theorem dX6_countPresent_16 : decode cX6_countPresent 16 = .ok (.aload_n 2, 1) := by decide +kernel
theorem dX6_countPresent_17 : decode cX6_countPresent 17 = .ok (.iload 4, 2) := by decide +kernel
theorem dX6_countPresent_19 : decode cX6_countPresent 19 = .ok (.iaload, 1) := by decide +kernel
theorem dX6_countPresent_20 : decode cX6_countPresent 20 = .ok (.istore 5, 2) := by decide +kernel
theorem dX6_countPresent_22 : decode cX6_countPresent 22 = .ok (.iload 5, 2) := by decide +kernel
theorem dX6_countPresent_24 : decode cX6_countPresent 24 = .ok (.bipush (-9), 2) := by decide +kernel
theorem dX6_countPresent_26 : decode cX6_countPresent 26 = .ok (.if_icmp .eq 6, 3) := by decide +kernel
theorem dX6_countPresent_29 : decode cX6_countPresent 29 = .ok (.iinc 1 1, 3) := by decide +kernel
theorem dX6_countPresent_32 : decode cX6_countPresent 32 = .ok (.iinc 4 1, 3) := by decide +kernel
theorem dX6_countPresent_35 : decode cX6_countPresent 35 = .ok (.goto (-25), 3) := by decide +kernel
theorem dX6_countPresent_38 : decode cX6_countPresent 38 = .ok (.iload_n 1, 1) := by decide +kernel
theorem dX6_countPresent_39 : decode cX6_countPresent 39 = .ok (.ireturn, 1) := by decide +kernel
theorem dX6_copyFrom_0 : decode cX6_copyFrom 0 = .ok (.aload_n 1, 1) := by decide +kernel
theorem dX6_copyFrom_1 : decode cX6_copyFrom 1 = .ok (.getfield 9, 3) := by decide +kernel
theorem dX6_copyFrom_4 : decode cX6_copyFrom 4 = .ok (.iconst 0, 1) := by decide +kernel
theorem dX6_copyFrom_5 : decode cX6_copyFrom 5 = .ok (.aload_n 0, 1) := by decide +kernel
theorem dX6_copyFrom_6 : decode cX6_copyFrom 6 = .ok (.getfield 9, 3) := by decide +kernel
theorem dX6_copyFrom_9 : decode cX6_copyFrom 9 = .ok (.iconst 0, 1) := by decide +kernel
theorem dX6_copyFrom_10 : decode cX6_copyFrom 10 = .ok (.aload_n 0, 1) := by decide +kernel
theorem dX6_copyFrom_11 : decode cX6_copyFrom 11 = .ok (.getfield 9, 3) := by decide +kernel
theorem dX6_copyFrom_14 : decode cX6_copyFrom 14 = .ok (.arraylength, 1) := by decide +kernel
theorem dX6_copyFrom_15 : decode cX6_copyFrom 15 = .ok (.invokestatic 35, 3) := by decide +kernel
theorem dX6_copyFrom_18 : decode cX6_copyFrom 18 = .ok (.aload_n 1, 1) := by decide +kernel
theorem dX6_copyFrom_19 : decode cX6_copyFrom 19 = .ok (.getfield 15, 3) := by decide +kernel
theorem dX6_copyFrom_22 : decode cX6_copyFrom 22 = .ok (.iconst 0, 1) := by decide +kernel
theorem dX6_copyFrom_23 : decode cX6_copyFrom 23 = .ok (.aload_n 0, 1) := by decide +kernel
theorem dX6_copyFrom_24 : decode cX6_copyFrom 24 = .ok (.getfield 15, 3) := by decide +kernel
theorem dX6_copyFrom_27 : decode cX6_copyFrom 27 = .ok (.iconst 0, 1) := by decide +kernel
theorem dX6_copyFrom_28 : decode cX6_copyFrom 28 = .ok (.aload_n 0, 1) := by decide +kernel
theorem dX6_copyFrom_29 : decode cX6_copyFrom 29 = .ok (.getfield 15, 3) := by decide +kernel
theorem dX6_copyFrom_32 : decode cX6_copyFrom 32 = .ok (.arraylength, 1) := by decide +kernel
theorem dX6_copyFrom_33 : decode cX6_copyFrom 33 = .ok (.invokestatic 35, 3) := by decide +kernel
theorem dX6_copyFrom_36 : decode cX6_copyFrom 36 = .ok (.return_, 1) := by decide +kernel
set_option maxRecDepth 20000 in
theorem ggX7_init_X6_init : GoodIn wsX7_init wsX6_init := goodIn_r _ [35, 36, 2, 3, 37, 38, 39, 40, 41, 42, 43, 84, 85] (by decide +kernel) (by decide +kernel)
set_option maxRecDepth 20000 in
theorem gX7_init_X6_init : GoodIn wsX7_init (wsX6_init) := ggX7_init_X6_init
set_option maxRecDepth 20000 in
theorem ggX7_init_X3_init : GoodIn wsX7_init wsX3_init := goodIn_r _ [46, 47, 2, 3, 48, 49, 5, 6, 50, 34, 35, 36, 37, 38, 39, 40, 41, 42, 43, 94, 95, 96, 84, 85] (by decide +kernel) (by decide +kernel)
set_option maxRecDepth 20000 in
theorem gX7_init_X3_init : GoodIn wsX7_init (wsX3_init) := ggX7_init_X3_init
set_option maxRecDepth 20000 in
theorem ggX7_init_X4_init : GoodIn wsX7_init wsX4_init := goodIn_r _ [52, 53, 2, 3, 54, 29, 30, 55, 56, 57, 58, 59, 60, 61, 62, 63, 64, 37, 65, 103, 104, 97, 98] (by decide +kernel) (by decide +kernel)
set_option maxRecDepth 20000 in
theorem gX7_init_X4_init_n27 : GoodIn wsX7_init (wsX4_init) := ggX7_init_X4_init
set_option maxRecDepth 20000 in
theorem ggX7_init_X2_init : GoodIn wsX7_init wsX2_init := goodIn_r _ [67, 68, 2, 3, 37, 69, 99] (by decide +kernel) (by decide +kernel)
set_option maxRecDepth 20000 in
theorem gX7_init_X2_init_n34 : GoodIn wsX7_init (wsX2_init) := ggX7_init_X2_init
set_option maxRecDepth 20000 in
theorem ggX7_init_X0_init : GoodIn wsX7_init wsX0_init := goodIn_r _ [71, 72, 2, 3, 73, 37, 74, 75, 100, 101] (by decide +kernel) (by decide +kernel)
set_option maxRecDepth 20000 in
theorem gX7_init_X0_init_n41 : GoodIn wsX7_init (wsX0_init) := ggX7_init_X0_init
set_option maxRecDepth 20000 in
theorem ggX7_init_X1_init : GoodIn wsX7_init wsX1_init := goodIn_r _ [78, 79, 2, 3, 80, 81, 29, 30, 82, 58, 59, 60, 61, 62, 63, 64, 37, 65, 102, 103, 104] (by decide +kernel) (by decide +kernel)
set_option maxRecDepth 20000 in
theorem gX7_init_X1_init : GoodIn wsX7_init (wsX1_init) := ggX7_init_X1_init
set_option maxRecDepth 20000 in
theorem ggX7_init_X5_init : GoodIn wsX7_init wsX5_init := goodIn_r _ [59, 60, 2, 3, 61, 62, 63, 64, 37, 65, 103, 104] (by decide +kernel) (by decide +kernel)
set_option maxRecDepth 20000 in
theorem gX7_init_X5_init : GoodIn wsX7_init (wsX5_init) := ggX7_init_X5_init
theorem dX7_init_0 : decode cX7_init 0 = .ok (.aload_n 0, 1) := by decide +kernel
theorem dX7_init_1 : decode cX7_init 1 = .ok (.invokespecial 3, 3) := by decide +kernel
theorem dX7_init_4 : decode cX7_init 4 = .ok (.aload_n 0, 1) := by decide +kernel
theorem dX7_init_5 : decode cX7_init 5 = .ok (.new 9, 3) := by decide +kernel
theorem dX7_init_8 : decode cX7_init 8 = .ok (.dup, 1) := by decide +kernel
theorem dX7_init_9 : decode cX7_init 9 = .ok (.invokespecial 11, 3) := by decide +kernel
theorem dX7_init_12 : decode cX7_init 12 = .ok (.putfield 12, 3) := by decide +kernel
theorem dX7_init_15 : decode cX7_init 15 = .ok (.aload_n 0, 1) := by decide +kernel
theorem dX7_init_16 : decode cX7_init 16 = .ok (.new 18, 3) := by decide +kernel
theorem dX7_init_19 : decode cX7_init 19 = .ok (.dup, 1) := by decide +kernel
theorem dX7_init_20 : decode cX7_init 20 = .ok (.invokespecial 20, 3) := by decide +kernel
theorem dX7_init_23 : decode cX7_init 23 = .ok (.putfield 21, 3) := by decide +kernel
theorem dX7_init_26 : decode cX7_init 26 = .ok (.aload_n 0, 1) := by decide +kernel
theorem dX7_init_27 : decode cX7_init 27 = .ok (.new 25, 3) := by decide +kernel
theorem dX7_init_30 : decode cX7_init 30 = .ok (.dup, 1) := by decide +kernel
theorem dX7_init_31 : decode cX7_init 31 = .ok (.invokespecial 27, 3) := by decide +kernel
theorem dX7_init_34 : decode cX7_init 34 = .ok (.putfield 28, 3) := by decide +kernel
theorem dX7_init_37 : decode cX7_init 37 = .ok (.aload_n 0, 1) := by decide +kernel
theorem dX7_init_38 : decode cX7_init 38 = .ok (.new 32, 3) := by decide +kernel
theorem dX7_init_41 : decode cX7_init 41 = .ok (.dup, 1) := by decide +kernel
theorem dX7_init_42 : decode cX7_init 42 = .ok (.invokespecial 34, 3) := by decide +kernel
theorem dX7_init_45 : decode cX7_init 45 = .ok (.putfield 35, 3) := by decide +kernel
theorem dX7_init_48 : decode cX7_init 48 = .ok (.aload_n 0, 1) := by decide +kernel
theorem dX7_init_49 : decode cX7_init 49 = .ok (.new 39, 3) := by decide +kernel
theorem dX7_init_52 : decode cX7_init 52 = .ok (.dup, 1) := by decide +kernel
theorem dX7_init_53 : decode cX7_init 53 = .ok (.invokespecial 41, 3) := by decide +kernel
theorem dX7_init_56 : decode cX7_init 56 = .ok (.putfield 42, 3) := by decide +kernel
theorem dX7_init_59 : decode cX7_init 59 = .ok (.aload_n 0, 1) := by decide +kernel
theorem dX7_init_60 : decode cX7_init 60 = .ok (.new 46, 3) := by decide +kernel
theorem dX7_init_63 : decode cX7_init 63 = .ok (.dup, 1) := by decide +kernel
theorem dX7_init_64 : decode cX7_init 64 = .ok (.invokespecial 48, 3) := by decide +kernel
theorem dX7_init_67 : decode cX7_init 67 = .ok (.putfield 49, 3) := by decide +kernel
theorem dX7_init_70 : decode cX7_init 70 = .ok (.aload_n 0, 1) := by decide +kernel
theorem dX7_init_71 : decode cX7_init 71 = .ok (.new 53, 3) := by decide +kernel
theorem dX7_init_74 : decode cX7_init 74 = .ok (.dup, 1) := by decide +kernel
theorem dX7_init_75 : decode cX7_init 75 = .ok (.sipush 2187, 3) := by decide +kernel
theorem dX7_init_78 : decode cX7_init 78 = .ok (.invokespecial 55, 3) := by decide +kernel
theorem dX7_init_81 : decode cX7_init 81 = .ok (.putfield 58, 3) := by decide +kernel
theorem dX7_init_84 : decode cX7_init 84 = .ok (.aload_n 0, 1) := by decide +kernel
theorem dX7_init_85 : decode cX7_init 85 = .ok (.new 53, 3) := by decide +kernel
theorem dX7_init_88 : decode cX7_init 88 = .ok (.dup, 1) := by decide +kernel
theorem dX7_init_89 : decode cX7_init 89 = .ok (.sipush 2187, 3) := by decide +kernel
theorem dX7_init_92 : decode cX7_init 92 = .ok (.invokespecial 55, 3) := by decide +kernel
theorem dX7_init_95 : decode cX7_init 95 = .ok (.putfield 62, 3) := by decide +kernel
theorem dX7_init_98 : decode cX7_init 98 = .ok (.return_, 1) := by decide +kernel
set_option maxRecDepth 20000 in
theorem ggX7_rule_X7_isSign : GoodIn wsX7_rule wsX7_isSign := goodIn_r _ [6] (by decide +kernel) (by decide +kernel)
set_option maxRecDepth 20000 in
theorem gX7_rule_X7_isSign : GoodIn wsX7_rule (va_wsS RX7 65 yX7_isSign wsX7_isSign) := goodIn_app (goodIn_of _ (by decide +kernel)) ggX7_rule_X7_isSign
set_option maxRecDepth 20000 in
theorem ggX7_rule_X7_isLetter : GoodIn wsX7_rule wsX7_isLetter := goodIn_r _ [9] (by decide +kernel) (by decide +kernel)
set_option maxRecDepth 20000 in
theorem gX7_rule_X7_isLetter : GoodIn wsX7_rule (va_wsS RX7 69 yX7_isLetter wsX7_isLetter) := goodIn_app (goodIn_of _ (by decide +kernel)) ggX7_rule_X7_isLetter
set_option maxRecDepth 20000 in
theorem ggX7_rule_X7_isRow : GoodIn wsX7_rule wsX7_isRow := goodIn_r _ [12, 13] (by decide +kernel) (by decide +kernel)
set_option maxRecDepth 20000 in
theorem gX7_rule_X7_isRow : GoodIn wsX7_rule (va_wsS RX7 72 yX7_isRow wsX7_isRow) := goodIn_app (goodIn_of _ (by decide +kernel)) ggX7_rule_X7_isRow
set_option maxRecDepth 20000 in
theorem ggX7_rule_X3_keep : GoodIn wsX7_rule wsX3_keep := goodIn_r _ [18, 19, 20, 21, 22, 23, 24, 25, 26, 27, 28, 29, 30, 31, 32, 33, 34, 35, 36, 53, 54, 55, 56, 57] (by decide +kernel) (by decide +kernel)
set_option maxRecDepth 20000 in
theorem gX7_rule_X3_keep : GoodIn wsX7_rule (wsV RX7 76 RX3 yX3_keep wsX3_keep) := goodIn_app (goodIn_of _ (by decide +kernel)) ggX7_rule_X3_keep
set_option maxRecDepth 20000 in
theorem ggX7_rule_X6_ruleOf : GoodIn wsX7_rule wsX6_ruleOf := goodIn_r _ [40, 31, 4, 5, 6, 8, 9, 56, 57] (by decide +kernel) (by decide +kernel)
set_option maxRecDepth 20000 in
theorem gX7_rule_X6_ruleOf : GoodIn wsX7_rule (wsV RX7 80 RX6 yX6_ruleOf wsX6_ruleOf) := goodIn_app (goodIn_of _ (by decide +kernel)) ggX7_rule_X6_ruleOf
set_option maxRecDepth 20000 in
theorem ggX7_rule_X6_setRule : GoodIn wsX7_rule wsX6_setRule := goodIn_r _ [44, 31, 4, 5, 6, 8, 9, 56, 57] (by decide +kernel) (by decide +kernel)
set_option maxRecDepth 20000 in
theorem gX7_rule_X6_setRule : GoodIn wsX7_rule (wsV RX7 84 RX6 yX6_setRule wsX6_setRule) := goodIn_app (goodIn_of _ (by decide +kernel)) ggX7_rule_X6_setRule
theorem dX7_rule_0 : decode cX7_rule 0 = .ok (.iload_n 1, 1) := by decide +kernel
theorem dX7_rule_1 : decode cX7_rule 1 = .ok (.invokestatic 65, 3) := by decide +kernel
theorem dX7_rule_4 : decode cX7_rule 4 = .ok (.ifCond .eq 10, 3) := by decide +kernel
theorem dX7_rule_7 : decode cX7_rule 7 = .ok (.iload_n 2, 1) := by decide +kernel
theorem dX7_rule_8 : decode cX7_rule 8 = .ok (.invokestatic 69, 3) := by decide +kernel
theorem dX7_rule_11 : decode cX7_rule 11 = .ok (.ifCond .ne 5, 3) := by decide +kernel
theorem dX7_rule_14 : decode cX7_rule 14 = .ok (.iconst (-1), 1) := by decide +kernel
theorem dX7_rule_15 : decode cX7_rule 15 = .ok (.ireturn, 1) := by decide +kernel
theorem dX7_rule_16 : decode cX7_rule 16 = .ok (.iload_n 3, 1) := by decide +kernel
theorem dX7_rule_17 : decode cX7_rule 17 = .ok (.bipush (-9), 2) := by decide +kernel
theorem dX7_rule_19 : decode cX7_rule 19 = .ok (.if_icmp .eq 17, 3) := by decide +kernel
theorem dX7_rule_22 : decode cX7_rule 22 = .ok (.iload_n 3, 1) := by decide +kernel
theorem dX7_rule_23 : decode cX7_rule 23 = .ok (.i2l, 1) := by decide +kernel
theorem dX7_rule_24 : decode cX7_rule 24 = .ok (.bipush 6, 2) := by decide +kernel
theorem dX7_rule_26 : decode cX7_rule 26 = .ok (.iconst 3, 1) := by decide +kernel
theorem dX7_rule_27 : decode cX7_rule 27 = .ok (.invokestatic 72, 3) := by decide +kernel
theorem dX7_rule_30 : decode cX7_rule 30 = .ok (.ifCond .ne 6, 3) := by decide +kernel
theorem dX7_rule_33 : decode cX7_rule 33 = .ok (.bipush (-2), 2) := by decide +kernel
theorem dX7_rule_35 : decode cX7_rule 35 = .ok (.ireturn, 1) := by decide +kernel
theorem dX7_rule_36 : decode cX7_rule 36 = .ok (.aload_n 0, 1) := by decide +kernel
theorem dX7_rule_37 : decode cX7_rule 37 = .ok (.getfield 21, 3) := by decide +kernel
theorem dX7_rule_40 : decode cX7_rule 40 = .ok (.aload_n 0, 1) := by decide +kernel
theorem dX7_rule_41 : decode cX7_rule 41 = .ok (.getfield 12, 3) := by decide +kernel
theorem dX7_rule_44 : decode cX7_rule 44 = .ok (.invokevirtual 76, 3) := by decide +kernel
theorem dX7_rule_47 : decode cX7_rule 47 = .ok (.aload_n 0, 1) := by decide +kernel
theorem dX7_rule_48 : decode cX7_rule 48 = .ok (.getfield 12, 3) := by decide +kernel
theorem dX7_rule_51 : decode cX7_rule 51 = .ok (.iload_n 1, 1) := by decide +kernel
theorem dX7_rule_52 : decode cX7_rule 52 = .ok (.iload_n 2, 1) := by decide +kernel
theorem dX7_rule_53 : decode cX7_rule 53 = .ok (.invokevirtual 80, 3) := by decide +kernel
theorem dX7_rule_56 : decode cX7_rule 56 = .ok (.istore 4, 2) := by decide +kernel
theorem dX7_rule_58 : decode cX7_rule 58 = .ok (.aload_n 0, 1) := by decide +kernel
theorem dX7_rule_59 : decode cX7_rule 59 = .ok (.getfield 12, 3) := by decide +kernel
theorem dX7_rule_62 : decode cX7_rule 62 = .ok (.iload_n 1, 1) := by decide +kernel
theorem dX7_rule_63 : decode cX7_rule 63 = .ok (.iload_n 2, 1) := by decide +kernel
theorem dX7_rule_64 : decode cX7_rule 64 = .ok (.iload_n 3, 1) := by decide +kernel
theorem dX7_rule_65 : decode cX7_rule 65 = .ok (.invokevirtual 84, 3) := by decide +kernel
theorem dX7_rule_68 : decode cX7_rule 68 = .ok (.iload 4, 2) := by decide +kernel
theorem dX7_rule_70 : decode cX7_rule 70 = .ok (.ireturn, 1) := by decide +kernel
set_option maxRecDepth 20000 in
theorem ggX7_ofRule_X7_isSign : GoodIn wsX7_ofRule wsX7_isSign := goodIn_r _ [5] (by decide +kernel) (by decide +kernel)
set_option maxRecDepth 20000 in
theorem gX7_ofRule_X7_isSign : GoodIn wsX7_ofRule (va_wsS RX7 65 yX7_isSign wsX7_isSign) := goodIn_app (goodIn_of _ (by decide +kernel)) ggX7_ofRule_X7_isSign
set_option maxRecDepth 20000 in
theorem ggX7_ofRule_X7_isLetter : GoodIn wsX7_ofRule wsX7_isLetter := goodIn_r _ [8] (by decide +kernel) (by decide +kernel)
set_option maxRecDepth 20000 in
theorem gX7_ofRule_X7_isLetter : GoodIn wsX7_ofRule (va_wsS RX7 69 yX7_isLetter wsX7_isLetter) := goodIn_app (goodIn_of _ (by decide +kernel)) ggX7_ofRule_X7_isLetter
set_option maxRecDepth 20000 in
theorem ggX7_ofRule_X6_ruleOf : GoodIn wsX7_ofRule wsX6_ruleOf := goodIn_r _ [13, 14, 3, 4, 5, 7, 8, 23, 24] (by decide +kernel) (by decide +kernel)
set_option maxRecDepth 20000 in
theorem gX7_ofRule_X6_ruleOf : GoodIn wsX7_ofRule (wsV RX7 80 RX6 yX6_ruleOf wsX6_ruleOf) := goodIn_app (goodIn_of _ (by decide +kernel)) ggX7_ofRule_X6_ruleOf
theorem dX7_ofRule_0 : decode cX7_ofRule 0 = .ok (.iload_n 1, 1) := by decide +kernel
theorem dX7_ofRule_1 : decode cX7_ofRule 1 = .ok (.invokestatic 65, 3) := by decide +kernel
theorem dX7_ofRule_4 : decode cX7_ofRule 4 = .ok (.ifCond .eq 22, 3) := by decide +kernel
theorem dX7_ofRule_7 : decode cX7_ofRule 7 = .ok (.iload_n 2, 1) := by decide +kernel
theorem dX7_ofRule_8 : decode cX7_ofRule 8 = .ok (.invokestatic 69, 3) := by decide +kernel
theorem dX7_ofRule_11 : decode cX7_ofRule 11 = .ok (.ifCond .eq 15, 3) := by decide +kernel
theorem dX7_ofRule_14 : decode cX7_ofRule 14 = .ok (.aload_n 0, 1) := by decide +kernel
theorem dX7_ofRule_15 : decode cX7_ofRule 15 = .ok (.getfield 12, 3) := by decide +kernel
theorem dX7_ofRule_18 : decode cX7_ofRule 18 = .ok (.iload_n 1, 1) := by decide +kernel
theorem dX7_ofRule_19 : decode cX7_ofRule 19 = .ok (.iload_n 2, 1) := by decide +kernel
theorem dX7_ofRule_20 : decode cX7_ofRule 20 = .ok (.invokevirtual 80, 3) := by decide +kernel
theorem dX7_ofRule_23 : decode cX7_ofRule 23 = .ok (.goto 4, 3) := by decide +kernel
theorem dX7_ofRule_26 : decode cX7_ofRule 26 = .ok (.iconst (-1), 1) := by decide +kernel
theorem dX7_ofRule_27 : decode cX7_ofRule 27 = .ok (.ireturn, 1) := by decide +kernel
set_option maxRecDepth 20000 in
theorem ggX7_read_X7_isRowOfSigns : GoodIn wsX7_read wsX7_isRowOfSigns := goodIn_r _ [7, 8, 9, 6, 10, 11] (by decide +kernel) (by decide +kernel)
set_option maxRecDepth 20000 in
theorem gX7_read_X7_isRowOfSigns : GoodIn wsX7_read (va_wsS RX7 88 yX7_isRowOfSigns wsX7_isRowOfSigns) := goodIn_app (goodIn_of _ (by decide +kernel)) ggX7_read_X7_isRowOfSigns
set_option maxRecDepth 20000 in
theorem ggX7_read_X7_isRow : GoodIn wsX7_read wsX7_isRow := goodIn_r _ [10, 11] (by decide +kernel) (by decide +kernel)
set_option maxRecDepth 20000 in
theorem gX7_read_X7_isRow : GoodIn wsX7_read (va_wsS RX7 72 yX7_isRow wsX7_isRow) := goodIn_app (goodIn_of _ (by decide +kernel)) ggX7_read_X7_isRow
set_option maxRecDepth 20000 in
theorem ggX7_read_X4_countRead : GoodIn wsX7_read wsX4_countRead := goodIn_r _ [16, 17, 18, 19, 20, 15, 21, 22, 23, 24, 25, 26, 27, 28, 29, 30, 31, 32, 33, 34, 35, 36, 37, 38, 39, 40, 41, 42, 43, 44, 45, 46, 47, 48, 49, 50, 51, 52, 53, 54, 55, 56, 57, 58, 59, 60, 61, 6, 62, 63, 64, 65, 66, 67, 68, 69, 70, 71, 72, 87, 88, 89, 90, 91, 92] (by decide +kernel) (by decide +kernel)
set_option maxRecDepth 20000 in
theorem gX7_read_X4_countRead : GoodIn wsX7_read (wsV RX7 91 RX4 yX4_countRead wsX4_countRead) := goodIn_app (goodIn_of _ (by decide +kernel)) ggX7_read_X4_countRead
set_option maxRecDepth 20000 in
theorem ggX7_read_X5_size : GoodIn wsX7_read wsX5_size := goodIn_r _ [42, 28, 89, 90] (by decide +kernel) (by decide +kernel)
set_option maxRecDepth 20000 in
theorem gX7_read_X5_size : GoodIn wsX7_read (wsV RX7 98 RX5 yX5_size wsX5_size) := goodIn_app (goodIn_of _ (by decide +kernel)) ggX7_read_X5_size
set_option maxRecDepth 20000 in
theorem ggX7_read_X5_fromFirst : GoodIn wsX7_read wsX5_fromFirst := goodIn_r _ [46, 28, 47, 48, 49, 26, 50, 38, 89, 90] (by decide +kernel) (by decide +kernel)
set_option maxRecDepth 20000 in
theorem gX7_read_X5_fromFirst : GoodIn wsX7_read (wsV RX7 102 RX5 yX5_fromFirst wsX5_fromFirst) := goodIn_app (goodIn_of _ (by decide +kernel)) ggX7_read_X5_fromFirst
set_option maxRecDepth 20000 in
theorem ggX7_read_X4_readsToEnd : GoodIn wsX7_read wsX4_readsToEnd := goodIn_r _ [78, 17, 39, 40, 41, 26, 42, 28, 87, 88, 89, 90] (by decide +kernel) (by decide +kernel)
set_option maxRecDepth 20000 in
theorem gX7_read_X4_readsToEnd : GoodIn wsX7_read (wsV RX7 106 RX4 yX4_readsToEnd wsX4_readsToEnd) := goodIn_app (goodIn_of _ (by decide +kernel)) ggX7_read_X4_readsToEnd
theorem dX7_read_0 : decode cX7_read 0 = .ok (.iload_n 1, 1) := by decide +kernel
theorem dX7_read_1 : decode cX7_read 1 = .ok (.invokestatic 88, 3) := by decide +kernel
theorem dX7_read_4 : decode cX7_read 4 = .ok (.ifCond .eq 24, 3) := by decide +kernel
theorem dX7_read_7 : decode cX7_read 7 = .ok (.lload_n 2, 1) := by decide +kernel
theorem dX7_read_8 : decode cX7_read 8 = .ok (.iconst 3, 1) := by decide +kernel
theorem dX7_read_9 : decode cX7_read 9 = .ok (.bipush 12, 2) := by decide +kernel
theorem dX7_read_11 : decode cX7_read 11 = .ok (.invokestatic 72, 3) := by decide +kernel
theorem dX7_read_14 : decode cX7_read 14 = .ok (.ifCond .eq 14, 3) := by decide +kernel
theorem dX7_read_17 : decode cX7_read 17 = .ok (.iload 4, 2) := by decide +kernel
theorem dX7_read_19 : decode cX7_read 19 = .ok (.ifCond .lt 9, 3) := by decide +kernel
theorem dX7_read_22 : decode cX7_read 22 = .ok (.iload 4, 2) := by decide +kernel
theorem dX7_read_24 : decode cX7_read 24 = .ok (.iconst 3, 1) := by decide +kernel
theorem dX7_read_25 : decode cX7_read 25 = .ok (.if_icmp .le 6, 3) := by decide +kernel
theorem dX7_read_28 : decode cX7_read 28 = .ok (.bipush (-2), 2) := by decide +kernel
theorem dX7_read_30 : decode cX7_read 30 = .ok (.ireturn, 1) := by decide +kernel
theorem dX7_read_31 : decode cX7_read 31 = .ok (.aload_n 0, 1) := by decide +kernel
theorem dX7_read_32 : decode cX7_read 32 = .ok (.getfield 28, 3) := by decide +kernel
theorem dX7_read_35 : decode cX7_read 35 = .ok (.aload_n 0, 1) := by decide +kernel
theorem dX7_read_36 : decode cX7_read 36 = .ok (.getfield 12, 3) := by decide +kernel
theorem dX7_read_39 : decode cX7_read 39 = .ok (.iload_n 1, 1) := by decide +kernel
theorem dX7_read_40 : decode cX7_read 40 = .ok (.lload_n 2, 1) := by decide +kernel
theorem dX7_read_41 : decode cX7_read 41 = .ok (.invokevirtual 91, 3) := by decide +kernel
theorem dX7_read_44 : decode cX7_read 44 = .ok (.istore 5, 2) := by decide +kernel
theorem dX7_read_46 : decode cX7_read 46 = .ok (.iload 4, 2) := by decide +kernel
theorem dX7_read_48 : decode cX7_read 48 = .ok (.tableswitch 54 0 2 #[28, 31, 42], 28) := by decide +kernel
theorem dX7_read_76 : decode cX7_read 76 = .ok (.iload 5, 2) := by decide +kernel
theorem dX7_read_78 : decode cX7_read 78 = .ok (.ireturn, 1) := by decide +kernel
theorem dX7_read_79 : decode cX7_read 79 = .ok (.aload_n 0, 1) := by decide +kernel
theorem dX7_read_80 : decode cX7_read 80 = .ok (.getfield 28, 3) := by decide +kernel
theorem dX7_read_83 : decode cX7_read 83 = .ok (.getfield 95, 3) := by decide +kernel
theorem dX7_read_86 : decode cX7_read 86 = .ok (.invokevirtual 98, 3) := by decide +kernel
theorem dX7_read_89 : decode cX7_read 89 = .ok (.ireturn, 1) := by decide +kernel
theorem dX7_read_90 : decode cX7_read 90 = .ok (.aload_n 0, 1) := by decide +kernel
theorem dX7_read_91 : decode cX7_read 91 = .ok (.getfield 28, 3) := by decide +kernel
theorem dX7_read_94 : decode cX7_read 94 = .ok (.getfield 95, 3) := by decide +kernel
theorem dX7_read_97 : decode cX7_read 97 = .ok (.iconst 0, 1) := by decide +kernel
theorem dX7_read_98 : decode cX7_read 98 = .ok (.invokevirtual 102, 3) := by decide +kernel
theorem dX7_read_101 : decode cX7_read 101 = .ok (.ireturn, 1) := by decide +kernel
theorem dX7_read_102 : decode cX7_read 102 = .ok (.aload_n 0, 1) := by decide +kernel
theorem dX7_read_103 : decode cX7_read 103 = .ok (.getfield 28, 3) := by decide +kernel
theorem dX7_read_106 : decode cX7_read 106 = .ok (.invokevirtual 106, 3) := by decide +kernel
theorem dX7_read_109 : decode cX7_read 109 = .ok (.ifCond .eq 20, 3) := by decide +kernel
theorem dX7_read_112 : decode cX7_read 112 = .ok (.aload_n 0, 1) := by decide +kernel
theorem dX7_read_113 : decode cX7_read 113 = .ok (.getfield 28, 3) := by decide +kernel
theorem dX7_read_116 : decode cX7_read 116 = .ok (.getfield 95, 3) := by decide +kernel
theorem dX7_read_119 : decode cX7_read 119 = .ok (.invokevirtual 98, 3) := by decide +kernel
theorem dX7_read_122 : decode cX7_read 122 = .ok (.ifCond .ne 7, 3) := by decide +kernel
theorem dX7_read_125 : decode cX7_read 125 = .ok (.iconst 1, 1) := by decide +kernel
theorem dX7_read_126 : decode cX7_read 126 = .ok (.goto 4, 3) := by decide +kernel
theorem dX7_read_129 : decode cX7_read 129 = .ok (.iconst 0, 1) := by decide +kernel
theorem dX7_read_130 : decode cX7_read 130 = .ok (.ireturn, 1) := by decide +kernel
set_option maxRecDepth 20000 in
theorem ggX7_norm_X7_isRowOfSigns : GoodIn wsX7_norm wsX7_isRowOfSigns := goodIn_r _ [6, 7, 8, 5, 9, 10] (by decide +kernel) (by decide +kernel)
set_option maxRecDepth 20000 in
theorem gX7_norm_X7_isRowOfSigns : GoodIn wsX7_norm (va_wsS RX7 88 yX7_isRowOfSigns wsX7_isRowOfSigns) := goodIn_app (goodIn_of _ (by decide +kernel)) ggX7_norm_X7_isRowOfSigns
set_option maxRecDepth 20000 in
theorem ggX7_norm_X2_find : GoodIn wsX7_norm wsX2_find := goodIn_r _ [15, 16, 17, 18, 19, 20, 21, 22, 23, 14, 24, 25, 26, 27, 28, 29, 30, 31, 32, 33, 34, 35, 5, 36, 37, 38, 39, 40, 41, 42, 43, 44, 45, 46, 56, 57, 58] (by decide +kernel) (by decide +kernel)
set_option maxRecDepth 20000 in
theorem gX7_norm_X2_find : GoodIn wsX7_norm (wsV RX7 110 RX2 yX2_find wsX2_find) := goodIn_app (goodIn_of _ (by decide +kernel)) ggX7_norm_X2_find
set_option maxRecDepth 20000 in
theorem ggX7_norm_X2_ofRow : GoodIn wsX7_norm wsX2_ofRow := goodIn_r _ [42, 43, 44, 45, 14, 46, 16, 35, 5, 36, 56] (by decide +kernel) (by decide +kernel)
set_option maxRecDepth 20000 in
theorem gX7_norm_X2_ofRow : GoodIn wsX7_norm (wsV RX7 113 RX2 yX2_ofRow wsX2_ofRow) := goodIn_app (goodIn_of _ (by decide +kernel)) ggX7_norm_X2_ofRow
theorem dX7_norm_0 : decode cX7_norm 0 = .ok (.iload_n 1, 1) := by decide +kernel
theorem dX7_norm_1 : decode cX7_norm 1 = .ok (.invokestatic 88, 3) := by decide +kernel
theorem dX7_norm_4 : decode cX7_norm 4 = .ok (.ifCond .ne 6, 3) := by decide +kernel
theorem dX7_norm_7 : decode cX7_norm 7 = .ok (.bipush (-2), 2) := by decide +kernel
theorem dX7_norm_9 : decode cX7_norm 9 = .ok (.ireturn, 1) := by decide +kernel
theorem dX7_norm_10 : decode cX7_norm 10 = .ok (.aload_n 0, 1) := by decide +kernel
theorem dX7_norm_11 : decode cX7_norm 11 = .ok (.getfield 35, 3) := by decide +kernel
theorem dX7_norm_14 : decode cX7_norm 14 = .ok (.aload_n 0, 1) := by decide +kernel
theorem dX7_norm_15 : decode cX7_norm 15 = .ok (.getfield 12, 3) := by decide +kernel
theorem dX7_norm_18 : decode cX7_norm 18 = .ok (.invokevirtual 110, 3) := by decide +kernel
theorem dX7_norm_21 : decode cX7_norm 21 = .ok (.aload_n 0, 1) := by decide +kernel
theorem dX7_norm_22 : decode cX7_norm 22 = .ok (.getfield 35, 3) := by decide +kernel
theorem dX7_norm_25 : decode cX7_norm 25 = .ok (.iload_n 1, 1) := by decide +kernel
theorem dX7_norm_26 : decode cX7_norm 26 = .ok (.invokevirtual 113, 3) := by decide +kernel
theorem dX7_norm_29 : decode cX7_norm 29 = .ok (.ireturn, 1) := by decide +kernel
set_option maxRecDepth 20000 in
theorem ggX7_least_X7_isRowOfSigns : GoodIn wsX7_least wsX7_isRowOfSigns := goodIn_r _ [8, 9, 10, 7, 11, 12] (by decide +kernel) (by decide +kernel)
set_option maxRecDepth 20000 in
theorem gX7_least_X7_isRowOfSigns : GoodIn wsX7_least (va_wsS RX7 88 yX7_isRowOfSigns wsX7_isRowOfSigns) := goodIn_app (goodIn_of _ (by decide +kernel)) ggX7_least_X7_isRowOfSigns
set_option maxRecDepth 20000 in
theorem ggX7_least_X2_find : GoodIn wsX7_least wsX2_find := goodIn_r _ [17, 18, 19, 20, 21, 22, 23, 24, 25, 16, 26, 27, 28, 29, 30, 31, 32, 33, 34, 35, 36, 37, 7, 38, 39, 40, 41, 42, 43, 44, 45, 46, 47, 48, 109, 110, 111] (by decide +kernel) (by decide +kernel)
set_option maxRecDepth 20000 in
theorem gX7_least_X2_find : GoodIn wsX7_least (wsV RX7 110 RX2 yX2_find wsX2_find) := goodIn_app (goodIn_of _ (by decide +kernel)) ggX7_least_X2_find
set_option maxRecDepth 20000 in
theorem ggX7_least_X2_ofRow : GoodIn wsX7_least wsX2_ofRow := goodIn_r _ [44, 45, 46, 47, 16, 48, 18, 37, 7, 38, 109] (by decide +kernel) (by decide +kernel)
set_option maxRecDepth 20000 in
theorem gX7_least_X2_ofRow : GoodIn wsX7_least (wsV RX7 113 RX2 yX2_ofRow wsX2_ofRow) := goodIn_app (goodIn_of _ (by decide +kernel)) ggX7_least_X2_ofRow
set_option maxRecDepth 20000 in
theorem ggX7_least_X7_leastWord : GoodIn wsX7_least wsX7_leastWord := goodIn_r _ [53, 54, 2, 3, 55, 12, 56, 57, 58, 59, 60, 61, 62, 63, 64, 65, 66, 67, 68, 69, 70, 71, 72, 73, 74, 75, 76, 77, 78, 79, 80, 81, 82, 83, 84, 85, 86, 24, 25, 16, 26, 27, 28, 29, 30, 31, 32, 33, 34, 35, 36, 37, 7, 38, 39, 40, 41, 42, 43, 44, 45, 46, 47, 48, 18, 87, 88, 89, 90, 91, 92, 93, 94, 95, 96, 97, 98, 99, 100, 101, 102, 103, 104, 105, 106, 107, 108, 112, 113, 114, 115, 110, 111, 109] (by decide +kernel) (by decide +kernel)
set_option maxRecDepth 20000 in
theorem gX7_least_X7_leastWord : GoodIn wsX7_least (wsV RX7 120 RX7 yX7_leastWord wsX7_leastWord) := goodIn_app (goodIn_of _ (by decide +kernel)) ggX7_least_X7_leastWord
theorem dX7_least_0 : decode cX7_least 0 = .ok (.iload_n 1, 1) := by decide +kernel
theorem dX7_least_1 : decode cX7_least 1 = .ok (.invokestatic 88, 3) := by decide +kernel
theorem dX7_least_4 : decode cX7_least 4 = .ok (.ifCond .ne 7, 3) := by decide +kernel
theorem dX7_least_7 : decode cX7_least 7 = .ok (.ldc2_w 116, 3) := by decide +kernel
theorem dX7_least_10 : decode cX7_least 10 = .ok (.lreturn, 1) := by decide +kernel
theorem dX7_least_11 : decode cX7_least 11 = .ok (.aload_n 0, 1) := by decide +kernel
theorem dX7_least_12 : decode cX7_least 12 = .ok (.getfield 35, 3) := by decide +kernel
theorem dX7_least_15 : decode cX7_least 15 = .ok (.aload_n 0, 1) := by decide +kernel
theorem dX7_least_16 : decode cX7_least 16 = .ok (.getfield 12, 3) := by decide +kernel
theorem dX7_least_19 : decode cX7_least 19 = .ok (.invokevirtual 110, 3) := by decide +kernel
theorem dX7_least_22 : decode cX7_least 22 = .ok (.aload_n 0, 1) := by decide +kernel
theorem dX7_least_23 : decode cX7_least 23 = .ok (.getfield 35, 3) := by decide +kernel
theorem dX7_least_26 : decode cX7_least 26 = .ok (.iload_n 1, 1) := by decide +kernel
theorem dX7_least_27 : decode cX7_least 27 = .ok (.invokevirtual 113, 3) := by decide +kernel
theorem dX7_least_30 : decode cX7_least 30 = .ok (.istore_n 2, 1) := by decide +kernel
theorem dX7_least_31 : decode cX7_least 31 = .ok (.iload_n 2, 1) := by decide +kernel
theorem dX7_least_32 : decode cX7_least 32 = .ok (.bipush (-9), 2) := by decide +kernel
theorem dX7_least_34 : decode cX7_least 34 = .ok (.if_icmp .eq 9, 3) := by decide +kernel
theorem dX7_least_37 : decode cX7_least 37 = .ok (.iload_n 2, 1) := by decide +kernel
theorem dX7_least_38 : decode cX7_least 38 = .ok (.bipush 12, 2) := by decide +kernel
theorem dX7_least_40 : decode cX7_least 40 = .ok (.if_icmp .le 9, 3) := by decide +kernel
theorem dX7_least_43 : decode cX7_least 43 = .ok (.ldc2_w 118, 3) := by decide +kernel
theorem dX7_least_46 : decode cX7_least 46 = .ok (.goto 9, 3) := by decide +kernel
theorem dX7_least_49 : decode cX7_least 49 = .ok (.aload_n 0, 1) := by decide +kernel
theorem dX7_least_50 : decode cX7_least 50 = .ok (.iload_n 1, 1) := by decide +kernel
theorem dX7_least_51 : decode cX7_least 51 = .ok (.iload_n 2, 1) := by decide +kernel
theorem dX7_least_52 : decode cX7_least 52 = .ok (.invokevirtual 120, 3) := by decide +kernel
theorem dX7_least_55 : decode cX7_least 55 = .ok (.lreturn, 1) := by decide +kernel
set_option maxRecDepth 20000 in
theorem ggX7_words_X7_isRowOfSigns : GoodIn wsX7_words wsX7_isRowOfSigns := goodIn_r _ [6, 7, 8, 5, 9, 10] (by decide +kernel) (by decide +kernel)
set_option maxRecDepth 20000 in
theorem gX7_words_X7_isRowOfSigns : GoodIn wsX7_words (va_wsS RX7 88 yX7_isRowOfSigns wsX7_isRowOfSigns) := goodIn_app (goodIn_of _ (by decide +kernel)) ggX7_words_X7_isRowOfSigns
set_option maxRecDepth 20000 in
theorem ggX7_words_X0_find : GoodIn wsX7_words wsX0_find := goodIn_r _ [15, 16, 17, 18, 19, 14, 20, 21, 22, 23, 24, 25, 26, 27, 5, 28, 29, 30, 31, 32, 33, 34, 35, 36, 37, 38, 39, 40, 41, 42, 43, 53, 54, 55, 56] (by decide +kernel) (by decide +kernel)
set_option maxRecDepth 20000 in
theorem gX7_words_X0_find : GoodIn wsX7_words (wsV RX7 124 RX0 yX0_find wsX0_find) := goodIn_app (goodIn_of _ (by decide +kernel)) ggX7_words_X0_find
set_option maxRecDepth 20000 in
theorem ggX7_words_X0_ofRow : GoodIn wsX7_words wsX0_ofRow := goodIn_r _ [34, 35, 36, 37, 38, 39, 40, 41, 42, 14, 43, 16, 27, 5, 28, 53, 54] (by decide +kernel) (by decide +kernel)
set_option maxRecDepth 20000 in
theorem gX7_words_X0_ofRow : GoodIn wsX7_words (wsV RX7 127 RX0 yX0_ofRow wsX0_ofRow) := goodIn_app (goodIn_of _ (by decide +kernel)) ggX7_words_X0_ofRow
theorem dX7_words_0 : decode cX7_words 0 = .ok (.iload_n 1, 1) := by decide +kernel
theorem dX7_words_1 : decode cX7_words 1 = .ok (.invokestatic 88, 3) := by decide +kernel
theorem dX7_words_4 : decode cX7_words 4 = .ok (.ifCond .eq 13, 3) := by decide +kernel
theorem dX7_words_7 : decode cX7_words 7 = .ok (.iload_n 2, 1) := by decide +kernel
theorem dX7_words_8 : decode cX7_words 8 = .ok (.ifCond .lt 9, 3) := by decide +kernel
theorem dX7_words_11 : decode cX7_words 11 = .ok (.iload_n 2, 1) := by decide +kernel
theorem dX7_words_12 : decode cX7_words 12 = .ok (.bipush 12, 2) := by decide +kernel
theorem dX7_words_14 : decode cX7_words 14 = .ok (.if_icmp .le 6, 3) := by decide +kernel
theorem dX7_words_17 : decode cX7_words 17 = .ok (.bipush (-2), 2) := by decide +kernel
theorem dX7_words_19 : decode cX7_words 19 = .ok (.ireturn, 1) := by decide +kernel
theorem dX7_words_20 : decode cX7_words 20 = .ok (.aload_n 0, 1) := by decide +kernel
theorem dX7_words_21 : decode cX7_words 21 = .ok (.getfield 42, 3) := by decide +kernel
theorem dX7_words_24 : decode cX7_words 24 = .ok (.aload_n 0, 1) := by decide +kernel
theorem dX7_words_25 : decode cX7_words 25 = .ok (.getfield 12, 3) := by decide +kernel
theorem dX7_words_28 : decode cX7_words 28 = .ok (.iload_n 2, 1) := by decide +kernel
theorem dX7_words_29 : decode cX7_words 29 = .ok (.invokevirtual 124, 3) := by decide +kernel
theorem dX7_words_32 : decode cX7_words 32 = .ok (.aload_n 0, 1) := by decide +kernel
theorem dX7_words_33 : decode cX7_words 33 = .ok (.getfield 42, 3) := by decide +kernel
theorem dX7_words_36 : decode cX7_words 36 = .ok (.iload_n 1, 1) := by decide +kernel
theorem dX7_words_37 : decode cX7_words 37 = .ok (.iload_n 2, 1) := by decide +kernel
theorem dX7_words_38 : decode cX7_words 38 = .ok (.invokevirtual 127, 3) := by decide +kernel
theorem dX7_words_41 : decode cX7_words 41 = .ok (.ireturn, 1) := by decide +kernel
set_option maxRecDepth 20000 in
theorem ggX7_parts_X7_isRowOfSigns : GoodIn wsX7_parts wsX7_isRowOfSigns := goodIn_r _ [6, 7, 8, 5, 9, 10] (by decide +kernel) (by decide +kernel)
set_option maxRecDepth 20000 in
theorem gX7_parts_X7_isRowOfSigns : GoodIn wsX7_parts (va_wsS RX7 88 yX7_isRowOfSigns wsX7_isRowOfSigns) := goodIn_app (goodIn_of _ (by decide +kernel)) ggX7_parts_X7_isRowOfSigns
set_option maxRecDepth 20000 in
theorem ggX7_parts_X7_rowInOrder : GoodIn wsX7_parts wsX7_rowInOrder := goodIn_r _ [13] (by decide +kernel) (by decide +kernel)
set_option maxRecDepth 20000 in
theorem gX7_parts_X7_rowInOrder : GoodIn wsX7_parts (va_wsS RX7 129 yX7_rowInOrder wsX7_rowInOrder) := goodIn_app (goodIn_of _ (by decide +kernel)) ggX7_parts_X7_rowInOrder
set_option maxRecDepth 20000 in
theorem ggX7_parts_X7_goesThrough : GoodIn wsX7_parts wsX7_goesThrough := goodIn_r _ [17, 18, 19, 20, 21, 22, 23, 24, 25, 26, 27, 28, 29, 30, 31, 32, 33, 34, 35, 36, 37, 38, 39, 40, 41, 42, 43, 44, 45, 46, 47, 48, 49, 50, 51, 52, 53, 54, 55, 56, 57, 58, 59, 60, 61, 62, 63, 64, 65, 66, 67, 68, 69, 70, 5, 71, 72, 73, 74, 75, 76, 77, 78, 79, 80, 81, 82, 83, 84, 85, 86, 87, 88, 89, 90, 91, 92, 93, 94, 95, 96, 97, 98, 99, 100] (by decide +kernel) (by decide +kernel)
set_option maxRecDepth 20000 in
theorem gX7_parts_X7_goesThrough : GoodIn wsX7_parts (wsV RX7 132 RX7 yX7_goesThrough wsX7_goesThrough) := goodIn_app (goodIn_of _ (by decide +kernel)) ggX7_parts_X7_goesThrough
theorem dX7_parts_0 : decode cX7_parts 0 = .ok (.iload_n 1, 1) := by decide +kernel
theorem dX7_parts_1 : decode cX7_parts 1 = .ok (.invokestatic 88, 3) := by decide +kernel
theorem dX7_parts_4 : decode cX7_parts 4 = .ok (.ifCond .eq 19, 3) := by decide +kernel
theorem dX7_parts_7 : decode cX7_parts 7 = .ok (.iload_n 2, 1) := by decide +kernel
theorem dX7_parts_8 : decode cX7_parts 8 = .ok (.invokestatic 88, 3) := by decide +kernel
theorem dX7_parts_11 : decode cX7_parts 11 = .ok (.ifCond .eq 12, 3) := by decide +kernel
theorem dX7_parts_14 : decode cX7_parts 14 = .ok (.iload_n 3, 1) := by decide +kernel
theorem dX7_parts_15 : decode cX7_parts 15 = .ok (.ifCond .lt 8, 3) := by decide +kernel
theorem dX7_parts_18 : decode cX7_parts 18 = .ok (.iload_n 3, 1) := by decide +kernel
theorem dX7_parts_19 : decode cX7_parts 19 = .ok (.iconst 1, 1) := by decide +kernel
theorem dX7_parts_20 : decode cX7_parts 20 = .ok (.if_icmp .le 7, 3) := by decide +kernel
theorem dX7_parts_23 : decode cX7_parts 23 = .ok (.ldc2_w 116, 3) := by decide +kernel
theorem dX7_parts_26 : decode cX7_parts 26 = .ok (.lreturn, 1) := by decide +kernel
theorem dX7_parts_27 : decode cX7_parts 27 = .ok (.iconst 0, 1) := by decide +kernel
theorem dX7_parts_28 : decode cX7_parts 28 = .ok (.istore 4, 2) := by decide +kernel
theorem dX7_parts_30 : decode cX7_parts 30 = .ok (.iload 4, 2) := by decide +kernel
theorem dX7_parts_32 : decode cX7_parts 32 = .ok (.sipush 1093, 3) := by decide +kernel
theorem dX7_parts_35 : decode cX7_parts 35 = .ok (.if_icmp .ge 40, 3) := by decide +kernel
theorem dX7_parts_38 : decode cX7_parts 38 = .ok (.iload 4, 2) := by decide +kernel
theorem dX7_parts_40 : decode cX7_parts 40 = .ok (.iconst 3, 1) := by decide +kernel
theorem dX7_parts_41 : decode cX7_parts 41 = .ok (.invokestatic 129, 3) := by decide +kernel
theorem dX7_parts_44 : decode cX7_parts 44 = .ok (.istore 5, 2) := by decide +kernel
theorem dX7_parts_46 : decode cX7_parts 46 = .ok (.aload_n 0, 1) := by decide +kernel
theorem dX7_parts_47 : decode cX7_parts 47 = .ok (.iload_n 1, 1) := by decide +kernel
theorem dX7_parts_48 : decode cX7_parts 48 = .ok (.iload 5, 2) := by decide +kernel
theorem dX7_parts_50 : decode cX7_parts 50 = .ok (.iload_n 3, 1) := by decide +kernel
theorem dX7_parts_51 : decode cX7_parts 51 = .ok (.invokevirtual 132, 3) := by decide +kernel
theorem dX7_parts_54 : decode cX7_parts 54 = .ok (.aload_n 0, 1) := by decide +kernel
theorem dX7_parts_55 : decode cX7_parts 55 = .ok (.iload_n 2, 1) := by decide +kernel
theorem dX7_parts_56 : decode cX7_parts 56 = .ok (.iload 5, 2) := by decide +kernel
theorem dX7_parts_58 : decode cX7_parts 58 = .ok (.iload_n 3, 1) := by decide +kernel
theorem dX7_parts_59 : decode cX7_parts 59 = .ok (.invokevirtual 132, 3) := by decide +kernel
theorem dX7_parts_62 : decode cX7_parts 62 = .ok (.if_icmp .eq 7, 3) := by decide +kernel
theorem dX7_parts_65 : decode cX7_parts 65 = .ok (.iload 5, 2) := by decide +kernel
theorem dX7_parts_67 : decode cX7_parts 67 = .ok (.i2l, 1) := by decide +kernel
theorem dX7_parts_68 : decode cX7_parts 68 = .ok (.lreturn, 1) := by decide +kernel
theorem dX7_parts_69 : decode cX7_parts 69 = .ok (.iinc 4 1, 3) := by decide +kernel
theorem dX7_parts_72 : decode cX7_parts 72 = .ok (.goto (-42), 3) := by decide +kernel
theorem dX7_parts_75 : decode cX7_parts 75 = .ok (.ldc2_w 118, 3) := by decide +kernel
theorem dX7_parts_78 : decode cX7_parts 78 = .ok (.lreturn, 1) := by decide +kernel
set_option maxRecDepth 20000 in
theorem ggX7_firsts_X7_isRowOfSigns : GoodIn wsX7_firsts wsX7_isRowOfSigns := goodIn_r _ [6, 7, 8, 5, 9, 10] (by decide +kernel) (by decide +kernel)
set_option maxRecDepth 20000 in
theorem gX7_firsts_X7_isRowOfSigns : GoodIn wsX7_firsts (va_wsS RX7 88 yX7_isRowOfSigns wsX7_isRowOfSigns) := goodIn_app (goodIn_of _ (by decide +kernel)) ggX7_firsts_X7_isRowOfSigns
set_option maxRecDepth 20000 in
theorem ggX7_firsts_X2_find : GoodIn wsX7_firsts wsX2_find := goodIn_r _ [15, 16, 17, 18, 19, 20, 21, 22, 23, 14, 24, 25, 26, 27, 28, 29, 30, 31, 32, 33, 34, 35, 5, 36, 37, 38, 39, 40, 41, 42, 43, 44, 45, 46, 64, 65, 66] (by decide +kernel) (by decide +kernel)
set_option maxRecDepth 20000 in
theorem gX7_firsts_X2_find : GoodIn wsX7_firsts (wsV RX7 110 RX2 yX2_find wsX2_find) := goodIn_app (goodIn_of _ (by decide +kernel)) ggX7_firsts_X2_find
set_option maxRecDepth 20000 in
theorem ggX7_firsts_X2_firstsWithin : GoodIn wsX7_firsts wsX2_firstsWithin := goodIn_r _ [50, 43, 44, 45, 14, 46, 16, 35, 5, 36, 64] (by decide +kernel) (by decide +kernel)
set_option maxRecDepth 20000 in
theorem gX7_firsts_X2_firstsWithin : GoodIn wsX7_firsts (wsV RX7 136 RX2 yX2_firstsWithin wsX2_firstsWithin) := goodIn_app (goodIn_of _ (by decide +kernel)) ggX7_firsts_X2_firstsWithin
set_option maxRecDepth 20000 in
theorem ggX7_firsts_X7_firstsOfRules : GoodIn wsX7_firsts wsX7_firstsOfRules := goodIn_r _ [54, 1, 2, 55, 30, 31, 32, 33, 34, 35, 5, 36, 37, 38, 47, 48, 49, 14, 50, 43, 44, 45, 46, 16, 56, 57, 58, 59, 60, 61, 62, 63, 65, 66, 64] (by decide +kernel) (by decide +kernel)
set_option maxRecDepth 20000 in
theorem gX7_firsts_X7_firstsOfRules : GoodIn wsX7_firsts (wsV RX7 139 RX7 yX7_firstsOfRules wsX7_firstsOfRules) := goodIn_app (goodIn_of _ (by decide +kernel)) ggX7_firsts_X7_firstsOfRules
theorem dX7_firsts_0 : decode cX7_firsts 0 = .ok (.iload_n 1, 1) := by decide +kernel
theorem dX7_firsts_1 : decode cX7_firsts 1 = .ok (.invokestatic 88, 3) := by decide +kernel
theorem dX7_firsts_4 : decode cX7_firsts 4 = .ok (.ifCond .ne 6, 3) := by decide +kernel
theorem dX7_firsts_7 : decode cX7_firsts 7 = .ok (.bipush (-2), 2) := by decide +kernel
theorem dX7_firsts_9 : decode cX7_firsts 9 = .ok (.ireturn, 1) := by decide +kernel
theorem dX7_firsts_10 : decode cX7_firsts 10 = .ok (.aload_n 0, 1) := by decide +kernel
theorem dX7_firsts_11 : decode cX7_firsts 11 = .ok (.getfield 35, 3) := by decide +kernel
theorem dX7_firsts_14 : decode cX7_firsts 14 = .ok (.aload_n 0, 1) := by decide +kernel
theorem dX7_firsts_15 : decode cX7_firsts 15 = .ok (.getfield 12, 3) := by decide +kernel
theorem dX7_firsts_18 : decode cX7_firsts 18 = .ok (.invokevirtual 110, 3) := by decide +kernel
theorem dX7_firsts_21 : decode cX7_firsts 21 = .ok (.aload_n 0, 1) := by decide +kernel
theorem dX7_firsts_22 : decode cX7_firsts 22 = .ok (.getfield 35, 3) := by decide +kernel
theorem dX7_firsts_25 : decode cX7_firsts 25 = .ok (.iload_n 1, 1) := by decide +kernel
theorem dX7_firsts_26 : decode cX7_firsts 26 = .ok (.invokevirtual 136, 3) := by decide +kernel
theorem dX7_firsts_29 : decode cX7_firsts 29 = .ok (.istore_n 2, 1) := by decide +kernel
theorem dX7_firsts_30 : decode cX7_firsts 30 = .ok (.iconst 0, 1) := by decide +kernel
theorem dX7_firsts_31 : decode cX7_firsts 31 = .ok (.istore_n 3, 1) := by decide +kernel
theorem dX7_firsts_32 : decode cX7_firsts 32 = .ok (.iload_n 3, 1) := by decide +kernel
theorem dX7_firsts_33 : decode cX7_firsts 33 = .ok (.bipush 6, 2) := by decide +kernel
theorem dX7_firsts_35 : decode cX7_firsts 35 = .ok (.if_icmp .ge 17, 3) := by decide +kernel
theorem dX7_firsts_38 : decode cX7_firsts 38 = .ok (.iload_n 2, 1) := by decide +kernel
theorem dX7_firsts_39 : decode cX7_firsts 39 = .ok (.aload_n 0, 1) := by decide +kernel
theorem dX7_firsts_40 : decode cX7_firsts 40 = .ok (.iload_n 2, 1) := by decide +kernel
theorem dX7_firsts_41 : decode cX7_firsts 41 = .ok (.invokevirtual 139, 3) := by decide +kernel
theorem dX7_firsts_44 : decode cX7_firsts 44 = .ok (.ior, 1) := by decide +kernel
theorem dX7_firsts_45 : decode cX7_firsts 45 = .ok (.istore_n 2, 1) := by decide +kernel
theorem dX7_firsts_46 : decode cX7_firsts 46 = .ok (.iinc 3 1, 3) := by decide +kernel
theorem dX7_firsts_49 : decode cX7_firsts 49 = .ok (.goto (-17), 3) := by decide +kernel
theorem dX7_firsts_52 : decode cX7_firsts 52 = .ok (.iload_n 2, 1) := by decide +kernel
theorem dX7_firsts_53 : decode cX7_firsts 53 = .ok (.ireturn, 1) := by decide +kernel
set_option maxRecDepth 20000 in
theorem ggX7_claim_X7_isSign : GoodIn wsX7_claim wsX7_isSign := goodIn_r _ [6] (by decide +kernel) (by decide +kernel)
set_option maxRecDepth 20000 in
theorem gX7_claim_X7_isSign : GoodIn wsX7_claim (va_wsS RX7 65 yX7_isSign wsX7_isSign) := goodIn_app (goodIn_of _ (by decide +kernel)) ggX7_claim_X7_isSign
set_option maxRecDepth 20000 in
theorem ggX7_claim_X7_isRow : GoodIn wsX7_claim wsX7_isRow := goodIn_r _ [9, 10] (by decide +kernel) (by decide +kernel)
set_option maxRecDepth 20000 in
theorem gX7_claim_X7_isRow : GoodIn wsX7_claim (va_wsS RX7 72 yX7_isRow wsX7_isRow) := goodIn_app (goodIn_of _ (by decide +kernel)) ggX7_claim_X7_isRow
set_option maxRecDepth 20000 in
theorem ggX7_claim_X3_keep : GoodIn wsX7_claim wsX3_keep := goodIn_r _ [15, 16, 17, 18, 19, 20, 21, 22, 23, 24, 25, 26, 27, 28, 29, 30, 31, 32, 33, 50, 51, 52, 53, 54] (by decide +kernel) (by decide +kernel)
set_option maxRecDepth 20000 in
theorem gX7_claim_X3_keep : GoodIn wsX7_claim (wsV RX7 76 RX3 yX3_keep wsX3_keep) := goodIn_app (goodIn_of _ (by decide +kernel)) ggX7_claim_X3_keep
set_option maxRecDepth 20000 in
theorem ggX7_claim_X6_claimOf : GoodIn wsX7_claim wsX6_claimOf := goodIn_r _ [37, 33, 4, 5, 6, 53, 54] (by decide +kernel) (by decide +kernel)
set_option maxRecDepth 20000 in
theorem gX7_claim_X6_claimOf : GoodIn wsX7_claim (wsV RX7 142 RX6 yX6_claimOf wsX6_claimOf) := goodIn_app (goodIn_of _ (by decide +kernel)) ggX7_claim_X6_claimOf
set_option maxRecDepth 20000 in
theorem ggX7_claim_X6_setClaim : GoodIn wsX7_claim wsX6_setClaim := goodIn_r _ [41, 33, 4, 5, 6, 53, 54] (by decide +kernel) (by decide +kernel)
set_option maxRecDepth 20000 in
theorem gX7_claim_X6_setClaim : GoodIn wsX7_claim (wsV RX7 145 RX6 yX6_setClaim wsX6_setClaim) := goodIn_app (goodIn_of _ (by decide +kernel)) ggX7_claim_X6_setClaim
theorem dX7_claim_0 : decode cX7_claim 0 = .ok (.iload_n 1, 1) := by decide +kernel
theorem dX7_claim_1 : decode cX7_claim 1 = .ok (.invokestatic 65, 3) := by decide +kernel
theorem dX7_claim_4 : decode cX7_claim 4 = .ok (.ifCond .ne 5, 3) := by decide +kernel
theorem dX7_claim_7 : decode cX7_claim 7 = .ok (.iconst (-1), 1) := by decide +kernel
theorem dX7_claim_8 : decode cX7_claim 8 = .ok (.ireturn, 1) := by decide +kernel
theorem dX7_claim_9 : decode cX7_claim 9 = .ok (.iload_n 2, 1) := by decide +kernel
theorem dX7_claim_10 : decode cX7_claim 10 = .ok (.bipush (-9), 2) := by decide +kernel
theorem dX7_claim_12 : decode cX7_claim 12 = .ok (.if_icmp .eq 20, 3) := by decide +kernel
theorem dX7_claim_15 : decode cX7_claim 15 = .ok (.iload_n 2, 1) := by decide +kernel
theorem dX7_claim_16 : decode cX7_claim 16 = .ok (.ifCond .eq 13, 3) := by decide +kernel
theorem dX7_claim_19 : decode cX7_claim 19 = .ok (.iload_n 2, 1) := by decide +kernel
theorem dX7_claim_20 : decode cX7_claim 20 = .ok (.i2l, 1) := by decide +kernel
theorem dX7_claim_21 : decode cX7_claim 21 = .ok (.iload_n 1, 1) := by decide +kernel
theorem dX7_claim_22 : decode cX7_claim 22 = .ok (.iconst 3, 1) := by decide +kernel
theorem dX7_claim_23 : decode cX7_claim 23 = .ok (.invokestatic 72, 3) := by decide +kernel
theorem dX7_claim_26 : decode cX7_claim 26 = .ok (.ifCond .ne 6, 3) := by decide +kernel
theorem dX7_claim_29 : decode cX7_claim 29 = .ok (.bipush (-2), 2) := by decide +kernel
theorem dX7_claim_31 : decode cX7_claim 31 = .ok (.ireturn, 1) := by decide +kernel
theorem dX7_claim_32 : decode cX7_claim 32 = .ok (.aload_n 0, 1) := by decide +kernel
theorem dX7_claim_33 : decode cX7_claim 33 = .ok (.getfield 21, 3) := by decide +kernel
theorem dX7_claim_36 : decode cX7_claim 36 = .ok (.aload_n 0, 1) := by decide +kernel
theorem dX7_claim_37 : decode cX7_claim 37 = .ok (.getfield 12, 3) := by decide +kernel
theorem dX7_claim_40 : decode cX7_claim 40 = .ok (.invokevirtual 76, 3) := by decide +kernel
theorem dX7_claim_43 : decode cX7_claim 43 = .ok (.aload_n 0, 1) := by decide +kernel
theorem dX7_claim_44 : decode cX7_claim 44 = .ok (.getfield 12, 3) := by decide +kernel
theorem dX7_claim_47 : decode cX7_claim 47 = .ok (.iload_n 1, 1) := by decide +kernel
theorem dX7_claim_48 : decode cX7_claim 48 = .ok (.invokevirtual 142, 3) := by decide +kernel
theorem dX7_claim_51 : decode cX7_claim 51 = .ok (.istore_n 3, 1) := by decide +kernel
theorem dX7_claim_52 : decode cX7_claim 52 = .ok (.aload_n 0, 1) := by decide +kernel
theorem dX7_claim_53 : decode cX7_claim 53 = .ok (.getfield 12, 3) := by decide +kernel
theorem dX7_claim_56 : decode cX7_claim 56 = .ok (.iload_n 1, 1) := by decide +kernel
theorem dX7_claim_57 : decode cX7_claim 57 = .ok (.iload_n 2, 1) := by decide +kernel
theorem dX7_claim_58 : decode cX7_claim 58 = .ok (.invokevirtual 145, 3) := by decide +kernel
theorem dX7_claim_61 : decode cX7_claim 61 = .ok (.iload_n 3, 1) := by decide +kernel
theorem dX7_claim_62 : decode cX7_claim 62 = .ok (.ireturn, 1) := by decide +kernel
set_option maxRecDepth 20000 in
theorem ggX7_ofClaim_X7_isSign : GoodIn wsX7_ofClaim wsX7_isSign := goodIn_r _ [5] (by decide +kernel) (by decide +kernel)
set_option maxRecDepth 20000 in
theorem gX7_ofClaim_X7_isSign : GoodIn wsX7_ofClaim (va_wsS RX7 65 yX7_isSign wsX7_isSign) := goodIn_app (goodIn_of _ (by decide +kernel)) ggX7_ofClaim_X7_isSign
end
section
set_option maxRecDepth 20000 in
theorem ggX7_ofClaim_X6_claimOf : GoodIn wsX7_ofClaim wsX6_claimOf := goodIn_r _ [10, 11, 3, 4, 5, 20, 21] (by decide +kernel) (by decide +kernel)
set_option maxRecDepth 20000 in
theorem gX7_ofClaim_X6_claimOf : GoodIn wsX7_ofClaim (wsV RX7 142 RX6 yX6_claimOf wsX6_claimOf) := goodIn_app (goodIn_of _ (by decide +kernel)) ggX7_ofClaim_X6_claimOf
theorem dX7_ofClaim_0 : decode cX7_ofClaim 0 = .ok (.iload_n 1, 1) := by decide +kernel
theorem dX7_ofClaim_1 : decode cX7_ofClaim 1 = .ok (.invokestatic 65, 3) := by decide +kernel
theorem dX7_ofClaim_4 : decode cX7_ofClaim 4 = .ok (.ifCond .eq 14, 3) := by decide +kernel
theorem dX7_ofClaim_7 : decode cX7_ofClaim 7 = .ok (.aload_n 0, 1) := by decide +kernel
theorem dX7_ofClaim_8 : decode cX7_ofClaim 8 = .ok (.getfield 12, 3) := by decide +kernel
theorem dX7_ofClaim_11 : decode cX7_ofClaim 11 = .ok (.iload_n 1, 1) := by decide +kernel
theorem dX7_ofClaim_12 : decode cX7_ofClaim 12 = .ok (.invokevirtual 142, 3) := by decide +kernel
theorem dX7_ofClaim_15 : decode cX7_ofClaim 15 = .ok (.goto 4, 3) := by decide +kernel
theorem dX7_ofClaim_18 : decode cX7_ofClaim 18 = .ok (.iconst (-1), 1) := by decide +kernel
theorem dX7_ofClaim_19 : decode cX7_ofClaim 19 = .ok (.ireturn, 1) := by decide +kernel
set_option maxRecDepth 20000 in
theorem ggX7_reduced_X7_isRowOfSigns : GoodIn wsX7_reduced wsX7_isRowOfSigns := goodIn_r _ [7, 8, 9, 6, 10, 11] (by decide +kernel) (by decide +kernel)
set_option maxRecDepth 20000 in
theorem gX7_reduced_X7_isRowOfSigns : GoodIn wsX7_reduced (va_wsS RX7 88 yX7_isRowOfSigns wsX7_isRowOfSigns) := goodIn_app (goodIn_of _ (by decide +kernel)) ggX7_reduced_X7_isRowOfSigns
set_option maxRecDepth 20000 in
theorem ggX7_reduced_X1_find : GoodIn wsX7_reduced wsX1_find := goodIn_r _ [16, 17, 18, 19, 20, 21, 22, 23, 24, 6, 25, 26, 27, 28, 29, 30, 31, 32, 33, 34, 35, 36, 37, 38, 39, 15, 40, 41, 42, 43, 44, 45, 46, 47, 48, 71, 72, 73, 74, 75] (by decide +kernel) (by decide +kernel)
set_option maxRecDepth 20000 in
theorem gX7_reduced_X1_find : GoodIn wsX7_reduced (wsV RX7 149 RX1 yX1_find wsX1_find) := goodIn_app (goodIn_of _ (by decide +kernel)) ggX7_reduced_X1_find
set_option maxRecDepth 20000 in
theorem ggX7_reduced_X5_clear : GoodIn wsX7_reduced wsX5_clear := goodIn_r _ [30, 31, 74, 75] (by decide +kernel) (by decide +kernel)
set_option maxRecDepth 20000 in
theorem gX7_reduced_X5_clear : GoodIn wsX7_reduced (wsV RX7 150 RX5 yX5_clear wsX5_clear) := goodIn_app (goodIn_of _ (by decide +kernel)) ggX7_reduced_X5_clear
set_option maxRecDepth 20000 in
theorem ggX7_reduced_X1_putAhead : GoodIn wsX7_reduced wsX1_putAhead := goodIn_r _ [40, 17, 24, 6, 25, 41, 42, 43, 29, 44, 31, 36, 45, 46, 47, 48, 71, 74, 75] (by decide +kernel) (by decide +kernel)
set_option maxRecDepth 20000 in
theorem gX7_reduced_X1_putAhead : GoodIn wsX7_reduced (wsV RX7 153 RX1 yX1_putAhead wsX1_putAhead) := goodIn_app (goodIn_of _ (by decide +kernel)) ggX7_reduced_X1_putAhead
set_option maxRecDepth 20000 in
theorem ggX7_reduced_X5_size : GoodIn wsX7_reduced wsX5_size := goodIn_r _ [54, 31, 74, 75] (by decide +kernel) (by decide +kernel)
set_option maxRecDepth 20000 in
theorem gX7_reduced_X5_size : GoodIn wsX7_reduced (wsV RX7 98 RX5 yX5_size wsX5_size) := goodIn_app (goodIn_of _ (by decide +kernel)) ggX7_reduced_X5_size
set_option maxRecDepth 20000 in
theorem ggX7_reduced_X5_fromFirst : GoodIn wsX7_reduced wsX5_fromFirst := goodIn_r _ [58, 31, 59, 60, 61, 29, 62, 36, 74, 75] (by decide +kernel) (by decide +kernel)
set_option maxRecDepth 20000 in
theorem gX7_reduced_X5_fromFirst : GoodIn wsX7_reduced (wsV RX7 102 RX5 yX5_fromFirst wsX5_fromFirst) := goodIn_app (goodIn_of _ (by decide +kernel)) ggX7_reduced_X5_fromFirst
theorem dX7_reduced_0 : decode cX7_reduced 0 = .ok (.iload_n 1, 1) := by decide +kernel
theorem dX7_reduced_1 : decode cX7_reduced 1 = .ok (.invokestatic 88, 3) := by decide +kernel
theorem dX7_reduced_4 : decode cX7_reduced 4 = .ok (.ifCond .eq 8, 3) := by decide +kernel
theorem dX7_reduced_7 : decode cX7_reduced 7 = .ok (.iload_n 2, 1) := by decide +kernel
theorem dX7_reduced_8 : decode cX7_reduced 8 = .ok (.iconst (-1), 1) := by decide +kernel
theorem dX7_reduced_9 : decode cX7_reduced 9 = .ok (.if_icmp .ge 6, 3) := by decide +kernel
theorem dX7_reduced_12 : decode cX7_reduced 12 = .ok (.bipush (-2), 2) := by decide +kernel
theorem dX7_reduced_14 : decode cX7_reduced 14 = .ok (.ireturn, 1) := by decide +kernel
theorem dX7_reduced_15 : decode cX7_reduced 15 = .ok (.aload_n 0, 1) := by decide +kernel
theorem dX7_reduced_16 : decode cX7_reduced 16 = .ok (.getfield 49, 3) := by decide +kernel
theorem dX7_reduced_19 : decode cX7_reduced 19 = .ok (.aload_n 0, 1) := by decide +kernel
theorem dX7_reduced_20 : decode cX7_reduced 20 = .ok (.getfield 12, 3) := by decide +kernel
theorem dX7_reduced_23 : decode cX7_reduced 23 = .ok (.invokevirtual 149, 3) := by decide +kernel
theorem dX7_reduced_26 : decode cX7_reduced 26 = .ok (.aload_n 0, 1) := by decide +kernel
theorem dX7_reduced_27 : decode cX7_reduced 27 = .ok (.getfield 58, 3) := by decide +kernel
theorem dX7_reduced_30 : decode cX7_reduced 30 = .ok (.invokevirtual 150, 3) := by decide +kernel
theorem dX7_reduced_33 : decode cX7_reduced 33 = .ok (.aload_n 0, 1) := by decide +kernel
theorem dX7_reduced_34 : decode cX7_reduced 34 = .ok (.getfield 49, 3) := by decide +kernel
theorem dX7_reduced_37 : decode cX7_reduced 37 = .ok (.aload_n 0, 1) := by decide +kernel
theorem dX7_reduced_38 : decode cX7_reduced 38 = .ok (.getfield 58, 3) := by decide +kernel
theorem dX7_reduced_41 : decode cX7_reduced 41 = .ok (.iload_n 1, 1) := by decide +kernel
theorem dX7_reduced_42 : decode cX7_reduced 42 = .ok (.invokevirtual 153, 3) := by decide +kernel
theorem dX7_reduced_45 : decode cX7_reduced 45 = .ok (.iload_n 2, 1) := by decide +kernel
theorem dX7_reduced_46 : decode cX7_reduced 46 = .ok (.iconst (-1), 1) := by decide +kernel
theorem dX7_reduced_47 : decode cX7_reduced 47 = .ok (.if_icmp .ne 13, 3) := by decide +kernel
theorem dX7_reduced_50 : decode cX7_reduced 50 = .ok (.aload_n 0, 1) := by decide +kernel
theorem dX7_reduced_51 : decode cX7_reduced 51 = .ok (.getfield 58, 3) := by decide +kernel
theorem dX7_reduced_54 : decode cX7_reduced 54 = .ok (.invokevirtual 98, 3) := by decide +kernel
theorem dX7_reduced_57 : decode cX7_reduced 57 = .ok (.goto 11, 3) := by decide +kernel
theorem dX7_reduced_60 : decode cX7_reduced 60 = .ok (.aload_n 0, 1) := by decide +kernel
theorem dX7_reduced_61 : decode cX7_reduced 61 = .ok (.getfield 58, 3) := by decide +kernel
theorem dX7_reduced_64 : decode cX7_reduced 64 = .ok (.iload_n 2, 1) := by decide +kernel
theorem dX7_reduced_65 : decode cX7_reduced 65 = .ok (.invokevirtual 102, 3) := by decide +kernel
theorem dX7_reduced_68 : decode cX7_reduced 68 = .ok (.ireturn, 1) := by decide +kernel
set_option maxRecDepth 20000 in
theorem ggX7_alike_X7_isRowOfSigns : GoodIn wsX7_alike wsX7_isRowOfSigns := goodIn_r _ [6, 7, 8, 5, 9, 10] (by decide +kernel) (by decide +kernel)
set_option maxRecDepth 20000 in
theorem gX7_alike_X7_isRowOfSigns : GoodIn wsX7_alike (va_wsS RX7 88 yX7_isRowOfSigns wsX7_isRowOfSigns) := goodIn_app (goodIn_of _ (by decide +kernel)) ggX7_alike_X7_isRowOfSigns
set_option maxRecDepth 20000 in
theorem ggX7_alike_X7_reduceBoth : GoodIn wsX7_alike wsX7_reduceBoth := goodIn_r _ [14, 15, 16, 1, 2, 17, 18, 19, 20, 21, 22, 23, 24, 25, 26, 27, 28, 29, 5, 30, 31, 32, 33, 34, 35, 36, 37, 38, 39, 40, 41, 42, 43, 44, 45, 46, 47, 48, 49, 50, 51, 52, 53, 54, 55, 72, 73, 74, 75, 76, 77, 78, 79, 80, 81, 82, 83, 84] (by decide +kernel) (by decide +kernel)
set_option maxRecDepth 20000 in
theorem gX7_alike_X7_reduceBoth : GoodIn wsX7_alike (wsV RX7 157 RX7 yX7_reduceBoth wsX7_reduceBoth) := goodIn_app (goodIn_of _ (by decide +kernel)) ggX7_alike_X7_reduceBoth
set_option maxRecDepth 20000 in
theorem ggX7_alike_X5_isSame : GoodIn wsX7_alike wsX5_isSame := goodIn_r _ [59, 36, 60, 61, 62, 34, 63, 64, 65, 66, 67, 68, 69, 70, 71, 41, 83, 84] (by decide +kernel) (by decide +kernel)
set_option maxRecDepth 20000 in
theorem gX7_alike_X5_isSame : GoodIn wsX7_alike (wsV RX7 160 RX5 yX5_isSame wsX5_isSame) := goodIn_app (goodIn_of _ (by decide +kernel)) ggX7_alike_X5_isSame
theorem dX7_alike_0 : decode cX7_alike 0 = .ok (.iload_n 1, 1) := by decide +kernel
theorem dX7_alike_1 : decode cX7_alike 1 = .ok (.invokestatic 88, 3) := by decide +kernel
theorem dX7_alike_4 : decode cX7_alike 4 = .ok (.ifCond .eq 10, 3) := by decide +kernel
theorem dX7_alike_7 : decode cX7_alike 7 = .ok (.iload_n 2, 1) := by decide +kernel
theorem dX7_alike_8 : decode cX7_alike 8 = .ok (.invokestatic 88, 3) := by decide +kernel
theorem dX7_alike_11 : decode cX7_alike 11 = .ok (.ifCond .ne 6, 3) := by decide +kernel
theorem dX7_alike_14 : decode cX7_alike 14 = .ok (.bipush (-2), 2) := by decide +kernel
theorem dX7_alike_16 : decode cX7_alike 16 = .ok (.ireturn, 1) := by decide +kernel
theorem dX7_alike_17 : decode cX7_alike 17 = .ok (.aload_n 0, 1) := by decide +kernel
theorem dX7_alike_18 : decode cX7_alike 18 = .ok (.iload_n 1, 1) := by decide +kernel
theorem dX7_alike_19 : decode cX7_alike 19 = .ok (.iload_n 2, 1) := by decide +kernel
theorem dX7_alike_20 : decode cX7_alike 20 = .ok (.invokevirtual 157, 3) := by decide +kernel
theorem dX7_alike_23 : decode cX7_alike 23 = .ok (.aload_n 0, 1) := by decide +kernel
theorem dX7_alike_24 : decode cX7_alike 24 = .ok (.getfield 58, 3) := by decide +kernel
theorem dX7_alike_27 : decode cX7_alike 27 = .ok (.aload_n 0, 1) := by decide +kernel
theorem dX7_alike_28 : decode cX7_alike 28 = .ok (.getfield 62, 3) := by decide +kernel
theorem dX7_alike_31 : decode cX7_alike 31 = .ok (.invokevirtual 160, 3) := by decide +kernel
theorem dX7_alike_34 : decode cX7_alike 34 = .ok (.ifCond .eq 7, 3) := by decide +kernel
theorem dX7_alike_37 : decode cX7_alike 37 = .ok (.iconst 1, 1) := by decide +kernel
theorem dX7_alike_38 : decode cX7_alike 38 = .ok (.goto 4, 3) := by decide +kernel
theorem dX7_alike_41 : decode cX7_alike 41 = .ok (.iconst 0, 1) := by decide +kernel
theorem dX7_alike_42 : decode cX7_alike 42 = .ok (.ireturn, 1) := by decide +kernel
set_option maxRecDepth 20000 in
theorem ggX7_common_X7_isRowOfSigns : GoodIn wsX7_common wsX7_isRowOfSigns := goodIn_r _ [6, 7, 8, 5, 9, 10] (by decide +kernel) (by decide +kernel)
set_option maxRecDepth 20000 in
theorem gX7_common_X7_isRowOfSigns : GoodIn wsX7_common (va_wsS RX7 88 yX7_isRowOfSigns wsX7_isRowOfSigns) := goodIn_app (goodIn_of _ (by decide +kernel)) ggX7_common_X7_isRowOfSigns
set_option maxRecDepth 20000 in
theorem ggX7_common_X7_reduceBoth : GoodIn wsX7_common wsX7_reduceBoth := goodIn_r _ [14, 15, 16, 1, 2, 17, 18, 19, 20, 21, 22, 23, 24, 25, 26, 27, 28, 29, 5, 30, 31, 32, 33, 34, 35, 36, 37, 38, 39, 40, 41, 42, 43, 44, 45, 46, 47, 48, 49, 50, 51, 52, 53, 54, 55, 76, 77, 78, 79, 80, 81, 82, 83, 84, 85, 86, 87, 88] (by decide +kernel) (by decide +kernel)
set_option maxRecDepth 20000 in
theorem gX7_common_X7_reduceBoth : GoodIn wsX7_common (wsV RX7 157 RX7 yX7_reduceBoth wsX7_reduceBoth) := goodIn_app (goodIn_of _ (by decide +kernel)) ggX7_common_X7_reduceBoth
set_option maxRecDepth 20000 in
theorem ggX7_common_X5_sameFromFirst : GoodIn wsX7_common wsX5_sameFromFirst := goodIn_r _ [59, 36, 60, 61, 62, 63, 64, 65, 66, 34, 67, 68, 69, 70, 71, 41, 87, 88] (by decide +kernel) (by decide +kernel)
set_option maxRecDepth 20000 in
theorem gX7_common_X5_sameFromFirst : GoodIn wsX7_common (wsV RX7 164 RX5 yX5_sameFromFirst wsX5_sameFromFirst) := goodIn_app (goodIn_of _ (by decide +kernel)) ggX7_common_X5_sameFromFirst
set_option maxRecDepth 20000 in
theorem ggX7_common_X5_sameFromLast : GoodIn wsX7_common wsX5_sameFromLast := goodIn_r _ [75, 36, 60, 61, 62, 63, 68, 69, 70, 34, 71, 41, 87, 88] (by decide +kernel) (by decide +kernel)
set_option maxRecDepth 20000 in
theorem gX7_common_X5_sameFromLast : GoodIn wsX7_common (wsV RX7 168 RX5 yX5_sameFromLast wsX5_sameFromLast) := goodIn_app (goodIn_of _ (by decide +kernel)) ggX7_common_X5_sameFromLast
theorem dX7_common_0 : decode cX7_common 0 = .ok (.iload_n 1, 1) := by decide +kernel
theorem dX7_common_1 : decode cX7_common 1 = .ok (.invokestatic 88, 3) := by decide +kernel
theorem dX7_common_4 : decode cX7_common 4 = .ok (.ifCond .eq 19, 3) := by decide +kernel
theorem dX7_common_7 : decode cX7_common 7 = .ok (.iload_n 2, 1) := by decide +kernel
theorem dX7_common_8 : decode cX7_common 8 = .ok (.invokestatic 88, 3) := by decide +kernel
theorem dX7_common_11 : decode cX7_common 11 = .ok (.ifCond .eq 12, 3) := by decide +kernel
theorem dX7_common_14 : decode cX7_common 14 = .ok (.iload_n 3, 1) := by decide +kernel
theorem dX7_common_15 : decode cX7_common 15 = .ok (.ifCond .lt 8, 3) := by decide +kernel
theorem dX7_common_18 : decode cX7_common 18 = .ok (.iload_n 3, 1) := by decide +kernel
theorem dX7_common_19 : decode cX7_common 19 = .ok (.iconst 1, 1) := by decide +kernel
theorem dX7_common_20 : decode cX7_common 20 = .ok (.if_icmp .le 6, 3) := by decide +kernel
theorem dX7_common_23 : decode cX7_common 23 = .ok (.bipush (-2), 2) := by decide +kernel
theorem dX7_common_25 : decode cX7_common 25 = .ok (.ireturn, 1) := by decide +kernel
theorem dX7_common_26 : decode cX7_common 26 = .ok (.aload_n 0, 1) := by decide +kernel
theorem dX7_common_27 : decode cX7_common 27 = .ok (.iload_n 1, 1) := by decide +kernel
theorem dX7_common_28 : decode cX7_common 28 = .ok (.iload_n 2, 1) := by decide +kernel
theorem dX7_common_29 : decode cX7_common 29 = .ok (.invokevirtual 157, 3) := by decide +kernel
theorem dX7_common_32 : decode cX7_common 32 = .ok (.iload_n 3, 1) := by decide +kernel
theorem dX7_common_33 : decode cX7_common 33 = .ok (.ifCond .ne 17, 3) := by decide +kernel
theorem dX7_common_36 : decode cX7_common 36 = .ok (.aload_n 0, 1) := by decide +kernel
theorem dX7_common_37 : decode cX7_common 37 = .ok (.getfield 58, 3) := by decide +kernel
theorem dX7_common_40 : decode cX7_common 40 = .ok (.aload_n 0, 1) := by decide +kernel
theorem dX7_common_41 : decode cX7_common 41 = .ok (.getfield 62, 3) := by decide +kernel
theorem dX7_common_44 : decode cX7_common 44 = .ok (.invokevirtual 164, 3) := by decide +kernel
theorem dX7_common_47 : decode cX7_common 47 = .ok (.goto 14, 3) := by decide +kernel
theorem dX7_common_50 : decode cX7_common 50 = .ok (.aload_n 0, 1) := by decide +kernel
theorem dX7_common_51 : decode cX7_common 51 = .ok (.getfield 58, 3) := by decide +kernel
theorem dX7_common_54 : decode cX7_common 54 = .ok (.aload_n 0, 1) := by decide +kernel
theorem dX7_common_55 : decode cX7_common 55 = .ok (.getfield 62, 3) := by decide +kernel
theorem dX7_common_58 : decode cX7_common 58 = .ok (.invokevirtual 168, 3) := by decide +kernel
theorem dX7_common_61 : decode cX7_common 61 = .ok (.ireturn, 1) := by decide +kernel
set_option maxRecDepth 20000 in
theorem ggX7_broken_X1_find : GoodIn wsX7_broken wsX1_find := goodIn_r _ [7, 8, 9, 10, 11, 12, 13, 14, 15, 16, 17, 18, 19, 20, 21, 22, 23, 24, 25, 26, 27, 28, 29, 30, 31, 6, 32, 33, 34, 35, 36, 37, 38, 39, 40, 88, 89, 90, 91, 92] (by decide +kernel) (by decide +kernel)
set_option maxRecDepth 20000 in
theorem gX7_broken_X1_find : GoodIn wsX7_broken (wsV RX7 149 RX1 yX1_find wsX1_find) := goodIn_app (goodIn_of _ (by decide +kernel)) ggX7_broken_X1_find
set_option maxRecDepth 20000 in
theorem ggX7_broken_X7_breakingLetter : GoodIn wsX7_broken wsX7_breakingLetter := goodIn_r _ [44, 2, 45, 10, 11, 12, 13, 14, 15, 16, 17, 46, 47, 48, 49, 50, 1, 51, 52, 53, 54, 55, 56, 57, 58, 59, 60, 61, 62, 19, 20, 21, 22, 23, 63, 30, 31, 6, 32, 8, 33, 34, 35, 36, 28, 37, 38, 39, 40, 64, 65, 66, 67, 68, 69, 70, 71, 72, 73, 74, 75, 76, 77, 78, 79, 80, 81, 82, 83, 84, 85, 86, 87, 89, 90, 91, 92, 88] (by decide +kernel) (by decide +kernel)
set_option maxRecDepth 20000 in
theorem gX7_broken_X7_breakingLetter : GoodIn wsX7_broken (wsV RX7 171 RX7 yX7_breakingLetter wsX7_breakingLetter) := goodIn_app (goodIn_of _ (by decide +kernel)) ggX7_broken_X7_breakingLetter
theorem dX7_broken_0 : decode cX7_broken 0 = .ok (.iload_n 1, 1) := by decide +kernel
theorem dX7_broken_1 : decode cX7_broken 1 = .ok (.ifCond .lt 8, 3) := by decide +kernel
theorem dX7_broken_4 : decode cX7_broken 4 = .ok (.iload_n 1, 1) := by decide +kernel
theorem dX7_broken_5 : decode cX7_broken 5 = .ok (.iconst 1, 1) := by decide +kernel
theorem dX7_broken_6 : decode cX7_broken 6 = .ok (.if_icmp .le 6, 3) := by decide +kernel
theorem dX7_broken_9 : decode cX7_broken 9 = .ok (.bipush (-2), 2) := by decide +kernel
theorem dX7_broken_11 : decode cX7_broken 11 = .ok (.ireturn, 1) := by decide +kernel
theorem dX7_broken_12 : decode cX7_broken 12 = .ok (.aload_n 0, 1) := by decide +kernel
theorem dX7_broken_13 : decode cX7_broken 13 = .ok (.getfield 49, 3) := by decide +kernel
theorem dX7_broken_16 : decode cX7_broken 16 = .ok (.aload_n 0, 1) := by decide +kernel
theorem dX7_broken_17 : decode cX7_broken 17 = .ok (.getfield 12, 3) := by decide +kernel
theorem dX7_broken_20 : decode cX7_broken 20 = .ok (.invokevirtual 149, 3) := by decide +kernel
theorem dX7_broken_23 : decode cX7_broken 23 = .ok (.iconst 0, 1) := by decide +kernel
theorem dX7_broken_24 : decode cX7_broken 24 = .ok (.istore_n 2, 1) := by decide +kernel
theorem dX7_broken_25 : decode cX7_broken 25 = .ok (.iload_n 2, 1) := by decide +kernel
theorem dX7_broken_26 : decode cX7_broken 26 = .ok (.bipush 6, 2) := by decide +kernel
theorem dX7_broken_28 : decode cX7_broken 28 = .ok (.if_icmp .ge 31, 3) := by decide +kernel
theorem dX7_broken_31 : decode cX7_broken 31 = .ok (.aload_n 0, 1) := by decide +kernel
theorem dX7_broken_32 : decode cX7_broken 32 = .ok (.iload_n 2, 1) := by decide +kernel
theorem dX7_broken_33 : decode cX7_broken 33 = .ok (.invokevirtual 171, 3) := by decide +kernel
theorem dX7_broken_36 : decode cX7_broken 36 = .ok (.istore_n 3, 1) := by decide +kernel
theorem dX7_broken_37 : decode cX7_broken 37 = .ok (.iload_n 3, 1) := by decide +kernel
theorem dX7_broken_38 : decode cX7_broken 38 = .ok (.bipush (-9), 2) := by decide +kernel
theorem dX7_broken_40 : decode cX7_broken 40 = .ok (.if_icmp .eq 13, 3) := by decide +kernel
theorem dX7_broken_43 : decode cX7_broken 43 = .ok (.iload_n 1, 1) := by decide +kernel
theorem dX7_broken_44 : decode cX7_broken 44 = .ok (.ifCond .ne 7, 3) := by decide +kernel
theorem dX7_broken_47 : decode cX7_broken 47 = .ok (.iload_n 2, 1) := by decide +kernel
theorem dX7_broken_48 : decode cX7_broken 48 = .ok (.goto 4, 3) := by decide +kernel
theorem dX7_broken_51 : decode cX7_broken 51 = .ok (.iload_n 3, 1) := by decide +kernel
theorem dX7_broken_52 : decode cX7_broken 52 = .ok (.ireturn, 1) := by decide +kernel
theorem dX7_broken_53 : decode cX7_broken 53 = .ok (.iinc 2 1, 3) := by decide +kernel
theorem dX7_broken_56 : decode cX7_broken 56 = .ok (.goto (-31), 3) := by decide +kernel
theorem dX7_broken_59 : decode cX7_broken 59 = .ok (.bipush (-9), 2) := by decide +kernel
theorem dX7_broken_61 : decode cX7_broken 61 = .ok (.ireturn, 1) := by decide +kernel
set_option maxRecDepth 20000 in
theorem ggX7_settle_X3_keep : GoodIn wsX7_settle wsX3_keep := goodIn_r _ [7, 8, 9, 10, 11, 12, 13, 14, 15, 16, 17, 18, 19, 20, 21, 22, 23, 24, 25, 122, 123, 124, 125, 126] (by decide +kernel) (by decide +kernel)
set_option maxRecDepth 20000 in
theorem gX7_settle_X3_keep : GoodIn wsX7_settle (wsV RX7 76 RX3 yX3_keep wsX3_keep) := goodIn_app (goodIn_of _ (by decide +kernel)) ggX7_settle_X3_keep
set_option maxRecDepth 20000 in
theorem ggX7_settle_X7_brokenClaims : GoodIn wsX7_settle wsX7_brokenClaims := goodIn_r _ [30, 31, 2, 32, 33, 34, 35, 36, 37, 38, 39, 40, 18, 41, 25, 42, 29, 43, 44, 45, 46, 47, 48, 49, 50, 51, 52, 53, 54, 55, 56, 57, 58, 59, 60, 61, 62, 63, 22, 23, 24, 64, 65, 66, 67, 68, 69, 70, 71, 72, 73, 74, 75, 76, 77, 78, 79, 80, 81, 20, 82, 83, 84, 85, 86, 87, 88, 89, 90, 91, 92, 93, 94, 12, 13, 14, 95, 96, 97, 98, 114, 115, 116, 117, 118, 119, 120, 121, 127, 125, 126, 128, 129] (by decide +kernel) (by decide +kernel)
set_option maxRecDepth 20000 in
theorem gX7_settle_X7_brokenClaims : GoodIn wsX7_settle (wsV RX7 174 RX7 yX7_brokenClaims wsX7_brokenClaims) := goodIn_app (goodIn_of _ (by decide +kernel)) ggX7_settle_X7_brokenClaims
set_option maxRecDepth 20000 in
theorem ggX7_settle_X7_removeClaims : GoodIn wsX7_settle wsX7_removeClaims := goodIn_r _ [102, 2, 103, 104, 105, 18, 106, 25, 42, 29, 43, 114, 115, 116, 117, 118, 119, 120, 121, 125, 126] (by decide +kernel) (by decide +kernel)
set_option maxRecDepth 20000 in
theorem gX7_settle_X7_removeClaims : GoodIn wsX7_settle (wsV RX7 177 RX7 yX7_removeClaims wsX7_removeClaims) := goodIn_app (goodIn_of _ (by decide +kernel)) ggX7_settle_X7_removeClaims
set_option maxRecDepth 20000 in
theorem ggX7_settle_J6_bitCount_0f7a4 : GoodIn wsX7_settle wsJ6_bitCount_0f7a4 := goodIn_r _ [110, 111, 112, 113] (by decide +kernel) (by decide +kernel)
set_option maxRecDepth 20000 in
theorem gX7_settle_J6_bitCount_0f7a4 : GoodIn wsX7_settle (va_wsS RX7 180 yJ6_bitCount_0f7a4 wsJ6_bitCount_0f7a4) := goodIn_app (goodIn_of _ (by decide +kernel)) ggX7_settle_J6_bitCount_0f7a4
theorem dX7_settle_0 : decode cX7_settle 0 = .ok (.aload_n 0, 1) := by decide +kernel
theorem dX7_settle_1 : decode cX7_settle 1 = .ok (.getfield 21, 3) := by decide +kernel
theorem dX7_settle_4 : decode cX7_settle 4 = .ok (.aload_n 0, 1) := by decide +kernel
theorem dX7_settle_5 : decode cX7_settle 5 = .ok (.getfield 12, 3) := by decide +kernel
theorem dX7_settle_8 : decode cX7_settle 8 = .ok (.invokevirtual 76, 3) := by decide +kernel
theorem dX7_settle_11 : decode cX7_settle 11 = .ok (.iconst 0, 1) := by decide +kernel
theorem dX7_settle_12 : decode cX7_settle 12 = .ok (.istore_n 1, 1) := by decide +kernel
theorem dX7_settle_13 : decode cX7_settle 13 = .ok (.aload_n 0, 1) := by decide +kernel
theorem dX7_settle_14 : decode cX7_settle 14 = .ok (.invokevirtual 174, 3) := by decide +kernel
theorem dX7_settle_17 : decode cX7_settle 17 = .ok (.istore_n 2, 1) := by decide +kernel
theorem dX7_settle_18 : decode cX7_settle 18 = .ok (.iconst 0, 1) := by decide +kernel
theorem dX7_settle_19 : decode cX7_settle 19 = .ok (.istore_n 3, 1) := by decide +kernel
theorem dX7_settle_20 : decode cX7_settle 20 = .ok (.iload_n 3, 1) := by decide +kernel
theorem dX7_settle_21 : decode cX7_settle 21 = .ok (.bipush 6, 2) := by decide +kernel
theorem dX7_settle_23 : decode cX7_settle 23 = .ok (.if_icmp .ge 30, 3) := by decide +kernel
theorem dX7_settle_26 : decode cX7_settle 26 = .ok (.iload_n 2, 1) := by decide +kernel
theorem dX7_settle_27 : decode cX7_settle 27 = .ok (.ifCond .eq 26, 3) := by decide +kernel
theorem dX7_settle_30 : decode cX7_settle 30 = .ok (.aload_n 0, 1) := by decide +kernel
theorem dX7_settle_31 : decode cX7_settle 31 = .ok (.iload_n 2, 1) := by decide +kernel
theorem dX7_settle_32 : decode cX7_settle 32 = .ok (.invokevirtual 177, 3) := by decide +kernel
theorem dX7_settle_35 : decode cX7_settle 35 = .ok (.iload_n 1, 1) := by decide +kernel
theorem dX7_settle_36 : decode cX7_settle 36 = .ok (.iload_n 2, 1) := by decide +kernel
theorem dX7_settle_37 : decode cX7_settle 37 = .ok (.invokestatic 180, 3) := by decide +kernel
theorem dX7_settle_40 : decode cX7_settle 40 = .ok (.iadd, 1) := by decide +kernel
theorem dX7_settle_41 : decode cX7_settle 41 = .ok (.istore_n 1, 1) := by decide +kernel
theorem dX7_settle_42 : decode cX7_settle 42 = .ok (.aload_n 0, 1) := by decide +kernel
theorem dX7_settle_43 : decode cX7_settle 43 = .ok (.invokevirtual 174, 3) := by decide +kernel
theorem dX7_settle_46 : decode cX7_settle 46 = .ok (.istore_n 2, 1) := by decide +kernel
theorem dX7_settle_47 : decode cX7_settle 47 = .ok (.iinc 3 1, 3) := by decide +kernel
theorem dX7_settle_50 : decode cX7_settle 50 = .ok (.goto (-30), 3) := by decide +kernel
theorem dX7_settle_53 : decode cX7_settle 53 = .ok (.iload_n 1, 1) := by decide +kernel
theorem dX7_settle_54 : decode cX7_settle 54 = .ok (.ireturn, 1) := by decide +kernel
set_option maxRecDepth 20000 in
theorem ggX7_might_X7_isSign : GoodIn wsX7_might wsX7_isSign := goodIn_r _ [5] (by decide +kernel) (by decide +kernel)
set_option maxRecDepth 20000 in
theorem gX7_might_X7_isSign : GoodIn wsX7_might (va_wsS RX7 65 yX7_isSign wsX7_isSign) := goodIn_app (goodIn_of _ (by decide +kernel)) ggX7_might_X7_isSign
set_option maxRecDepth 20000 in
theorem ggX7_might_X6_claimOf : GoodIn wsX7_might wsX6_claimOf := goodIn_r _ [10, 11, 3, 4, 5, 100, 101] (by decide +kernel) (by decide +kernel)
set_option maxRecDepth 20000 in
theorem gX7_might_X6_claimOf : GoodIn wsX7_might (wsV RX7 142 RX6 yX6_claimOf wsX6_claimOf) := goodIn_app (goodIn_of _ (by decide +kernel)) ggX7_might_X6_claimOf
set_option maxRecDepth 20000 in
theorem ggX7_might_X7_mightFrom : GoodIn wsX7_might wsX7_mightFrom := goodIn_r _ [15, 1, 16, 17, 18, 4, 19, 20, 21, 22, 9, 23, 11, 3, 5, 24, 25, 26, 27, 28, 29, 30, 7, 8, 10, 31, 32, 33, 34, 35, 36, 37, 38, 39, 40, 41, 42, 43, 44, 45, 46, 47, 48, 49, 50, 51, 52, 53, 54, 55, 56, 57, 6, 58, 59, 60, 61, 62, 63, 64, 65, 66, 67, 68, 69, 70, 71, 72, 73, 74, 75, 76, 77, 78, 79, 80, 81, 82, 83, 84, 85, 86, 87, 88, 89, 90, 91, 92, 93, 94, 95, 96, 97, 98, 99, 100, 101, 102, 103, 104] (by decide +kernel) (by decide +kernel)
set_option maxRecDepth 20000 in
theorem gX7_might_X7_mightFrom : GoodIn wsX7_might (wsV RX7 185 RX7 yX7_mightFrom wsX7_mightFrom) := goodIn_app (goodIn_of _ (by decide +kernel)) ggX7_might_X7_mightFrom
set_option maxRecDepth 20000 in
theorem ggX7_might_X6_setClaim : GoodIn wsX7_might wsX6_setClaim := goodIn_r _ [23, 11, 3, 4, 5, 100, 101] (by decide +kernel) (by decide +kernel)
set_option maxRecDepth 20000 in
theorem gX7_might_X6_setClaim : GoodIn wsX7_might (wsV RX7 145 RX6 yX6_setClaim wsX6_setClaim) := goodIn_app (goodIn_of _ (by decide +kernel)) ggX7_might_X6_setClaim
theorem dX7_might_0 : decode cX7_might 0 = .ok (.iload_n 1, 1) := by decide +kernel
theorem dX7_might_1 : decode cX7_might 1 = .ok (.invokestatic 65, 3) := by decide +kernel
theorem dX7_might_4 : decode cX7_might 4 = .ok (.ifCond .ne 5, 3) := by decide +kernel
theorem dX7_might_7 : decode cX7_might 7 = .ok (.iconst (-1), 1) := by decide +kernel
theorem dX7_might_8 : decode cX7_might 8 = .ok (.ireturn, 1) := by decide +kernel
theorem dX7_might_9 : decode cX7_might 9 = .ok (.iload_n 2, 1) := by decide +kernel
theorem dX7_might_10 : decode cX7_might 10 = .ok (.iconst (-1), 1) := by decide +kernel
theorem dX7_might_11 : decode cX7_might 11 = .ok (.if_icmp .ge 6, 3) := by decide +kernel
theorem dX7_might_14 : decode cX7_might 14 = .ok (.bipush (-2), 2) := by decide +kernel
theorem dX7_might_16 : decode cX7_might 16 = .ok (.ireturn, 1) := by decide +kernel
theorem dX7_might_17 : decode cX7_might 17 = .ok (.aload_n 0, 1) := by decide +kernel
theorem dX7_might_18 : decode cX7_might 18 = .ok (.getfield 12, 3) := by decide +kernel
theorem dX7_might_21 : decode cX7_might 21 = .ok (.iload_n 1, 1) := by decide +kernel
theorem dX7_might_22 : decode cX7_might 22 = .ok (.invokevirtual 142, 3) := by decide +kernel
theorem dX7_might_25 : decode cX7_might 25 = .ok (.istore_n 3, 1) := by decide +kernel
theorem dX7_might_26 : decode cX7_might 26 = .ok (.aload_n 0, 1) := by decide +kernel
theorem dX7_might_27 : decode cX7_might 27 = .ok (.iload_n 1, 1) := by decide +kernel
theorem dX7_might_28 : decode cX7_might 28 = .ok (.iload_n 2, 1) := by decide +kernel
theorem dX7_might_29 : decode cX7_might 29 = .ok (.invokevirtual 185, 3) := by decide +kernel
theorem dX7_might_32 : decode cX7_might 32 = .ok (.istore 4, 2) := by decide +kernel
theorem dX7_might_34 : decode cX7_might 34 = .ok (.aload_n 0, 1) := by decide +kernel
theorem dX7_might_35 : decode cX7_might 35 = .ok (.getfield 12, 3) := by decide +kernel
theorem dX7_might_38 : decode cX7_might 38 = .ok (.iload_n 1, 1) := by decide +kernel
theorem dX7_might_39 : decode cX7_might 39 = .ok (.iload_n 3, 1) := by decide +kernel
theorem dX7_might_40 : decode cX7_might 40 = .ok (.invokevirtual 145, 3) := by decide +kernel
theorem dX7_might_43 : decode cX7_might 43 = .ok (.iload 4, 2) := by decide +kernel
theorem dX7_might_45 : decode cX7_might 45 = .ok (.ireturn, 1) := by decide +kernel
set_option maxRecDepth 20000 in
theorem ggX7_undo_X3_kept : GoodIn wsX7_undo wsX3_kept := goodIn_r _ [7, 8, 34, 35, 36] (by decide +kernel) (by decide +kernel)
set_option maxRecDepth 20000 in
theorem gX7_undo_X3_kept : GoodIn wsX7_undo (wsV RX7 188 RX3 yX3_kept wsX3_kept) := goodIn_app (goodIn_of _ (by decide +kernel)) ggX7_undo_X3_kept
set_option maxRecDepth 20000 in
theorem ggX7_undo_X3_bringBack : GoodIn wsX7_undo wsX3_bringBack := goodIn_r _ [12, 8, 13, 14, 15, 16, 17, 18, 19, 20, 21, 22, 23, 24, 25, 34, 35, 36, 37, 38] (by decide +kernel) (by decide +kernel)
set_option maxRecDepth 20000 in
theorem gX7_undo_X3_bringBack : GoodIn wsX7_undo (wsV RX7 191 RX3 yX3_bringBack wsX3_bringBack) := goodIn_app (goodIn_of _ (by decide +kernel)) ggX7_undo_X3_bringBack
theorem dX7_undo_0 : decode cX7_undo 0 = .ok (.iload_n 1, 1) := by decide +kernel
theorem dX7_undo_1 : decode cX7_undo 1 = .ok (.ifCond .lt 14, 3) := by decide +kernel
theorem dX7_undo_4 : decode cX7_undo 4 = .ok (.iload_n 1, 1) := by decide +kernel
theorem dX7_undo_5 : decode cX7_undo 5 = .ok (.aload_n 0, 1) := by decide +kernel
theorem dX7_undo_6 : decode cX7_undo 6 = .ok (.getfield 21, 3) := by decide +kernel
theorem dX7_undo_9 : decode cX7_undo 9 = .ok (.invokevirtual 188, 3) := by decide +kernel
theorem dX7_undo_12 : decode cX7_undo 12 = .ok (.if_icmp .le 6, 3) := by decide +kernel
theorem dX7_undo_15 : decode cX7_undo 15 = .ok (.bipush (-2), 2) := by decide +kernel
theorem dX7_undo_17 : decode cX7_undo 17 = .ok (.ireturn, 1) := by decide +kernel
theorem dX7_undo_18 : decode cX7_undo 18 = .ok (.aload_n 0, 1) := by decide +kernel
theorem dX7_undo_19 : decode cX7_undo 19 = .ok (.getfield 21, 3) := by decide +kernel
theorem dX7_undo_22 : decode cX7_undo 22 = .ok (.aload_n 0, 1) := by decide +kernel
theorem dX7_undo_23 : decode cX7_undo 23 = .ok (.getfield 12, 3) := by decide +kernel
theorem dX7_undo_26 : decode cX7_undo 26 = .ok (.iload_n 1, 1) := by decide +kernel
theorem dX7_undo_27 : decode cX7_undo 27 = .ok (.invokevirtual 191, 3) := by decide +kernel
theorem dX7_undo_30 : decode cX7_undo 30 = .ok (.aload_n 0, 1) := by decide +kernel
theorem dX7_undo_31 : decode cX7_undo 31 = .ok (.getfield 21, 3) := by decide +kernel
theorem dX7_undo_34 : decode cX7_undo 34 = .ok (.invokevirtual 188, 3) := by decide +kernel
theorem dX7_undo_37 : decode cX7_undo 37 = .ok (.ireturn, 1) := by decide +kernel
set_option maxRecDepth 20000 in
theorem ggX7_many_X6_countRules : GoodIn wsX7_many wsX6_countRules := goodIn_r _ [8, 9, 10, 11, 7, 12, 149, 150] (by decide +kernel) (by decide +kernel)
set_option maxRecDepth 20000 in
theorem gX7_many_X6_countRules : GoodIn wsX7_many (wsV RX7 194 RX6 yX6_countRules wsX6_countRules) := goodIn_app (goodIn_of _ (by decide +kernel)) ggX7_many_X6_countRules
set_option maxRecDepth 20000 in
theorem ggX7_many_X6_countClaims : GoodIn wsX7_many wsX6_countClaims := goodIn_r _ [16, 17, 10, 11, 7, 12, 149, 150] (by decide +kernel) (by decide +kernel)
set_option maxRecDepth 20000 in
theorem gX7_many_X6_countClaims : GoodIn wsX7_many (wsV RX7 197 RX6 yX6_countClaims wsX6_countClaims) := goodIn_app (goodIn_of _ (by decide +kernel)) ggX7_many_X6_countClaims
set_option maxRecDepth 20000 in
theorem ggX7_many_X2_find : GoodIn wsX7_many wsX2_find := goodIn_r _ [22, 23, 24, 25, 26, 27, 28, 29, 30, 21, 31, 32, 33, 34, 35, 36, 37, 38, 7, 39, 9, 40, 41, 42, 43, 44, 45, 46, 47, 48, 49, 50, 51, 52, 151, 149, 150] (by decide +kernel) (by decide +kernel)
set_option maxRecDepth 20000 in
theorem gX7_many_X2_find : GoodIn wsX7_many (wsV RX7 110 RX2 yX2_find wsX2_find) := goodIn_app (goodIn_of _ (by decide +kernel)) ggX7_many_X2_find
set_option maxRecDepth 20000 in
theorem ggX7_many_X2_countFound : GoodIn wsX7_many wsX2_countFound := goodIn_r _ [56, 23, 151] (by decide +kernel) (by decide +kernel)
set_option maxRecDepth 20000 in
theorem gX7_many_X2_countFound : GoodIn wsX7_many (wsV RX7 200 RX2 yX2_countFound wsX2_countFound) := goodIn_app (goodIn_of _ (by decide +kernel)) ggX7_many_X2_countFound
set_option maxRecDepth 20000 in
theorem ggX7_many_X3_kept : GoodIn wsX7_many wsX3_kept := goodIn_r _ [61, 62, 152, 153, 154] (by decide +kernel) (by decide +kernel)
set_option maxRecDepth 20000 in
theorem gX7_many_X3_kept : GoodIn wsX7_many (wsV RX7 188 RX3 yX3_kept wsX3_kept) := goodIn_app (goodIn_of _ (by decide +kernel)) ggX7_many_X3_kept
set_option maxRecDepth 20000 in
theorem ggX7_many_X7_brokenClaims : GoodIn wsX7_many wsX7_brokenClaims := goodIn_r _ [66, 67, 1, 68, 69, 70, 71, 72, 73, 74, 75, 76, 7, 77, 17, 40, 41, 42, 78, 79, 80, 81, 82, 83, 84, 85, 86, 87, 88, 89, 90, 91, 92, 93, 94, 95, 96, 97, 98, 99, 100, 101, 102, 103, 104, 105, 106, 107, 108, 109, 110, 111, 112, 113, 114, 115, 37, 38, 39, 9, 43, 44, 116, 117, 118, 119, 120, 121, 122, 123, 124, 125, 126, 127, 128, 129, 130, 131, 132, 133, 141, 142, 143, 144, 145, 146, 147, 148, 155, 149, 150, 156, 157] (by decide +kernel) (by decide +kernel)
set_option maxRecDepth 20000 in
theorem gX7_many_X7_brokenClaims : GoodIn wsX7_many (wsV RX7 174 RX7 yX7_brokenClaims wsX7_brokenClaims) := goodIn_app (goodIn_of _ (by decide +kernel)) ggX7_many_X7_brokenClaims
set_option maxRecDepth 20000 in
theorem ggX7_many_J6_bitCount_0f7a4 : GoodIn wsX7_many wsJ6_bitCount_0f7a4 := goodIn_r _ [137, 138, 139, 140] (by decide +kernel) (by decide +kernel)
set_option maxRecDepth 20000 in
theorem gX7_many_J6_bitCount_0f7a4 : GoodIn wsX7_many (va_wsS RX7 180 yJ6_bitCount_0f7a4 wsJ6_bitCount_0f7a4) := goodIn_app (goodIn_of _ (by decide +kernel)) ggX7_many_J6_bitCount_0f7a4
theorem dX7_many_0 : decode cX7_many 0 = .ok (.iload_n 1, 1) := by decide +kernel
theorem dX7_many_1 : decode cX7_many 1 = .ok (.tableswitch 86 0 4 #[35, 43, 51, 70, 78], 35) := by decide +kernel
theorem dX7_many_36 : decode cX7_many 36 = .ok (.aload_n 0, 1) := by decide +kernel
theorem dX7_many_37 : decode cX7_many 37 = .ok (.getfield 12, 3) := by decide +kernel
theorem dX7_many_40 : decode cX7_many 40 = .ok (.invokevirtual 194, 3) := by decide +kernel
theorem dX7_many_43 : decode cX7_many 43 = .ok (.ireturn, 1) := by decide +kernel
theorem dX7_many_44 : decode cX7_many 44 = .ok (.aload_n 0, 1) := by decide +kernel
theorem dX7_many_45 : decode cX7_many 45 = .ok (.getfield 12, 3) := by decide +kernel
theorem dX7_many_48 : decode cX7_many 48 = .ok (.invokevirtual 197, 3) := by decide +kernel
theorem dX7_many_51 : decode cX7_many 51 = .ok (.ireturn, 1) := by decide +kernel
theorem dX7_many_52 : decode cX7_many 52 = .ok (.aload_n 0, 1) := by decide +kernel
theorem dX7_many_53 : decode cX7_many 53 = .ok (.getfield 35, 3) := by decide +kernel
theorem dX7_many_56 : decode cX7_many 56 = .ok (.aload_n 0, 1) := by decide +kernel
theorem dX7_many_57 : decode cX7_many 57 = .ok (.getfield 12, 3) := by decide +kernel
theorem dX7_many_60 : decode cX7_many 60 = .ok (.invokevirtual 110, 3) := by decide +kernel
theorem dX7_many_63 : decode cX7_many 63 = .ok (.aload_n 0, 1) := by decide +kernel
theorem dX7_many_64 : decode cX7_many 64 = .ok (.getfield 35, 3) := by decide +kernel
theorem dX7_many_67 : decode cX7_many 67 = .ok (.invokevirtual 200, 3) := by decide +kernel
theorem dX7_many_70 : decode cX7_many 70 = .ok (.ireturn, 1) := by decide +kernel
theorem dX7_many_71 : decode cX7_many 71 = .ok (.aload_n 0, 1) := by decide +kernel
theorem dX7_many_72 : decode cX7_many 72 = .ok (.getfield 21, 3) := by decide +kernel
theorem dX7_many_75 : decode cX7_many 75 = .ok (.invokevirtual 188, 3) := by decide +kernel
theorem dX7_many_78 : decode cX7_many 78 = .ok (.ireturn, 1) := by decide +kernel
theorem dX7_many_79 : decode cX7_many 79 = .ok (.aload_n 0, 1) := by decide +kernel
theorem dX7_many_80 : decode cX7_many 80 = .ok (.invokevirtual 174, 3) := by decide +kernel
theorem dX7_many_83 : decode cX7_many 83 = .ok (.invokestatic 180, 3) := by decide +kernel
theorem dX7_many_86 : decode cX7_many 86 = .ok (.ireturn, 1) := by decide +kernel
theorem dX7_many_87 : decode cX7_many 87 = .ok (.bipush (-2), 2) := by decide +kernel
theorem dX7_many_89 : decode cX7_many 89 = .ok (.ireturn, 1) := by decide +kernel
theorem dX7_isSign_0 : decode cX7_isSign 0 = .ok (.iload_n 0, 1) := by decide +kernel
theorem dX7_isSign_1 : decode cX7_isSign 1 = .ok (.ifCond .lt 13, 3) := by decide +kernel
theorem dX7_isSign_4 : decode cX7_isSign 4 = .ok (.iload_n 0, 1) := by decide +kernel
theorem dX7_isSign_5 : decode cX7_isSign 5 = .ok (.bipush 6, 2) := by decide +kernel
theorem dX7_isSign_7 : decode cX7_isSign 7 = .ok (.if_icmp .ge 7, 3) := by decide +kernel
theorem dX7_isSign_10 : decode cX7_isSign 10 = .ok (.iconst 1, 1) := by decide +kernel
theorem dX7_isSign_11 : decode cX7_isSign 11 = .ok (.goto 4, 3) := by decide +kernel
theorem dX7_isSign_14 : decode cX7_isSign 14 = .ok (.iconst 0, 1) := by decide +kernel
theorem dX7_isSign_15 : decode cX7_isSign 15 = .ok (.ireturn, 1) := by decide +kernel
theorem dX7_isLetter_0 : decode cX7_isLetter 0 = .ok (.iload_n 0, 1) := by decide +kernel
theorem dX7_isLetter_1 : decode cX7_isLetter 1 = .ok (.ifCond .lt 12, 3) := by decide +kernel
theorem dX7_isLetter_4 : decode cX7_isLetter 4 = .ok (.iload_n 0, 1) := by decide +kernel
theorem dX7_isLetter_5 : decode cX7_isLetter 5 = .ok (.iconst 3, 1) := by decide +kernel
theorem dX7_isLetter_6 : decode cX7_isLetter 6 = .ok (.if_icmp .ge 7, 3) := by decide +kernel
theorem dX7_isLetter_9 : decode cX7_isLetter 9 = .ok (.iconst 1, 1) := by decide +kernel
theorem dX7_isLetter_10 : decode cX7_isLetter 10 = .ok (.goto 4, 3) := by decide +kernel
theorem dX7_isLetter_13 : decode cX7_isLetter 13 = .ok (.iconst 0, 1) := by decide +kernel
theorem dX7_isLetter_14 : decode cX7_isLetter 14 = .ok (.ireturn, 1) := by decide +kernel
set_option maxRecDepth 20000 in
theorem ggX7_isRowOfSigns_X7_isRow : GoodIn wsX7_isRowOfSigns wsX7_isRow := goodIn_r _ [4, 5] (by decide +kernel) (by decide +kernel)
set_option maxRecDepth 20000 in
theorem gX7_isRowOfSigns_X7_isRow : GoodIn wsX7_isRowOfSigns (va_wsS RX7 72 yX7_isRow wsX7_isRow) := goodIn_app (goodIn_of _ (by decide +kernel)) ggX7_isRowOfSigns_X7_isRow
theorem dX7_isRowOfSigns_0 : decode cX7_isRowOfSigns 0 = .ok (.iload_n 0, 1) := by decide +kernel
theorem dX7_isRowOfSigns_1 : decode cX7_isRowOfSigns 1 = .ok (.i2l, 1) := by decide +kernel
theorem dX7_isRowOfSigns_2 : decode cX7_isRowOfSigns 2 = .ok (.bipush 6, 2) := by decide +kernel
theorem dX7_isRowOfSigns_4 : decode cX7_isRowOfSigns 4 = .ok (.bipush 9, 2) := by decide +kernel
theorem dX7_isRowOfSigns_6 : decode cX7_isRowOfSigns 6 = .ok (.invokestatic 72, 3) := by decide +kernel
theorem dX7_isRowOfSigns_9 : decode cX7_isRowOfSigns 9 = .ok (.ireturn, 1) := by decide +kernel
theorem dX7_isRow_0 : decode cX7_isRow 0 = .ok (.lload_n 0, 1) := by decide +kernel
theorem dX7_isRow_1 : decode cX7_isRow 1 = .ok (.lstore 4, 2) := by decide +kernel
theorem dX7_isRow_3 : decode cX7_isRow 3 = .ok (.iconst 0, 1) := by decide +kernel
theorem dX7_isRow_4 : decode cX7_isRow 4 = .ok (.istore 6, 2) := by decide +kernel
theorem dX7_isRow_6 : decode cX7_isRow 6 = .ok (.iload 6, 2) := by decide +kernel
theorem dX7_isRow_8 : decode cX7_isRow 8 = .ok (.iload_n 3, 1) := by decide +kernel
theorem dX7_isRow_9 : decode cX7_isRow 9 = .ok (.if_icmp .ge 49, 3) := by decide +kernel
theorem dX7_isRow_12 : decode cX7_isRow 12 = .ok (.lload 4, 2) := by decide +kernel
theorem dX7_isRow_14 : decode cX7_isRow 14 = .ok (.lconst 0, 1) := by decide +kernel
theorem dX7_isRow_15 : decode cX7_isRow 15 = .ok (.lcmp, 1) := by decide +kernel
theorem dX7_isRow_16 : decode cX7_isRow 16 = .ok (.ifCond .le 42, 3) := by decide +kernel
theorem dX7_isRow_19 : decode cX7_isRow 19 = .ok (.lload 4, 2) := by decide +kernel
theorem dX7_isRow_21 : decode cX7_isRow 21 = .ok (.ldc2_w 203, 3) := by decide +kernel
theorem dX7_isRow_24 : decode cX7_isRow 24 = .ok (.lrem, 1) := by decide +kernel
theorem dX7_isRow_25 : decode cX7_isRow 25 = .ok (.lstore 7, 2) := by decide +kernel
theorem dX7_isRow_27 : decode cX7_isRow 27 = .ok (.lload 7, 2) := by decide +kernel
theorem dX7_isRow_29 : decode cX7_isRow 29 = .ok (.lconst 1, 1) := by decide +kernel
theorem dX7_isRow_30 : decode cX7_isRow 30 = .ok (.lcmp, 1) := by decide +kernel
theorem dX7_isRow_31 : decode cX7_isRow 31 = .ok (.ifCond .lt 11, 3) := by decide +kernel
theorem dX7_isRow_34 : decode cX7_isRow 34 = .ok (.lload 7, 2) := by decide +kernel
theorem dX7_isRow_36 : decode cX7_isRow 36 = .ok (.iload_n 2, 1) := by decide +kernel
theorem dX7_isRow_37 : decode cX7_isRow 37 = .ok (.i2l, 1) := by decide +kernel
theorem dX7_isRow_38 : decode cX7_isRow 38 = .ok (.lcmp, 1) := by decide +kernel
theorem dX7_isRow_39 : decode cX7_isRow 39 = .ok (.ifCond .le 5, 3) := by decide +kernel
theorem dX7_isRow_42 : decode cX7_isRow 42 = .ok (.iconst 0, 1) := by decide +kernel
theorem dX7_isRow_43 : decode cX7_isRow 43 = .ok (.ireturn, 1) := by decide +kernel
theorem dX7_isRow_44 : decode cX7_isRow 44 = .ok (.lload 4, 2) := by decide +kernel
theorem dX7_isRow_46 : decode cX7_isRow 46 = .ok (.ldc2_w 203, 3) := by decide +kernel
theorem dX7_isRow_49 : decode cX7_isRow 49 = .ok (.ldiv, 1) := by decide +kernel
theorem dX7_isRow_50 : decode cX7_isRow 50 = .ok (.lstore 4, 2) := by decide +kernel
theorem dX7_isRow_52 : decode cX7_isRow 52 = .ok (.iinc 6 1, 3) := by decide +kernel
theorem dX7_isRow_55 : decode cX7_isRow 55 = .ok (.goto (-49), 3) := by decide +kernel
theorem dX7_isRow_58 : decode cX7_isRow 58 = .ok (.lload 4, 2) := by decide +kernel
theorem dX7_isRow_60 : decode cX7_isRow 60 = .ok (.lconst 0, 1) := by decide +kernel
theorem dX7_isRow_61 : decode cX7_isRow 61 = .ok (.lcmp, 1) := by decide +kernel
theorem dX7_isRow_62 : decode cX7_isRow 62 = .ok (.ifCond .ne 7, 3) := by decide +kernel
theorem dX7_isRow_65 : decode cX7_isRow 65 = .ok (.iconst 1, 1) := by decide +kernel
theorem dX7_isRow_66 : decode cX7_isRow 66 = .ok (.goto 4, 3) := by decide +kernel
theorem dX7_isRow_69 : decode cX7_isRow 69 = .ok (.iconst 0, 1) := by decide +kernel
theorem dX7_isRow_70 : decode cX7_isRow 70 = .ok (.ireturn, 1) := by decide +kernel
theorem dX7_rowInOrder_0 : decode cX7_rowInOrder 0 = .ok (.iconst 0, 1) := by decide +kernel
theorem dX7_rowInOrder_1 : decode cX7_rowInOrder 1 = .ok (.istore_n 2, 1) := by decide +kernel
theorem dX7_rowInOrder_2 : decode cX7_rowInOrder 2 = .ok (.iconst 1, 1) := by decide +kernel
theorem dX7_rowInOrder_3 : decode cX7_rowInOrder 3 = .ok (.istore_n 3, 1) := by decide +kernel
theorem dX7_rowInOrder_4 : decode cX7_rowInOrder 4 = .ok (.iload_n 0, 1) := by decide +kernel
theorem dX7_rowInOrder_5 : decode cX7_rowInOrder 5 = .ok (.istore 4, 2) := by decide +kernel
theorem dX7_rowInOrder_7 : decode cX7_rowInOrder 7 = .ok (.iconst 0, 1) := by decide +kernel
theorem dX7_rowInOrder_8 : decode cX7_rowInOrder 8 = .ok (.istore 5, 2) := by decide +kernel
theorem dX7_rowInOrder_10 : decode cX7_rowInOrder 10 = .ok (.iload 5, 2) := by decide +kernel
theorem dX7_rowInOrder_12 : decode cX7_rowInOrder 12 = .ok (.bipush 9, 2) := by decide +kernel
theorem dX7_rowInOrder_14 : decode cX7_rowInOrder 14 = .ok (.if_icmp .ge 44, 3) := by decide +kernel
theorem dX7_rowInOrder_17 : decode cX7_rowInOrder 17 = .ok (.iload 4, 2) := by decide +kernel
theorem dX7_rowInOrder_19 : decode cX7_rowInOrder 19 = .ok (.ifCond .le 39, 3) := by decide +kernel
theorem dX7_rowInOrder_22 : decode cX7_rowInOrder 22 = .ok (.iload_n 1, 1) := by decide +kernel
theorem dX7_rowInOrder_23 : decode cX7_rowInOrder 23 = .ok (.ifCond .le 35, 3) := by decide +kernel
theorem dX7_rowInOrder_26 : decode cX7_rowInOrder 26 = .ok (.iload_n 2, 1) := by decide +kernel
theorem dX7_rowInOrder_27 : decode cX7_rowInOrder 27 = .ok (.iload 4, 2) := by decide +kernel
theorem dX7_rowInOrder_29 : decode cX7_rowInOrder 29 = .ok (.iconst 1, 1) := by decide +kernel
theorem dX7_rowInOrder_30 : decode cX7_rowInOrder 30 = .ok (.isub, 1) := by decide +kernel
theorem dX7_rowInOrder_31 : decode cX7_rowInOrder 31 = .ok (.iload_n 1, 1) := by decide +kernel
theorem dX7_rowInOrder_32 : decode cX7_rowInOrder 32 = .ok (.irem, 1) := by decide +kernel
theorem dX7_rowInOrder_33 : decode cX7_rowInOrder 33 = .ok (.iconst 1, 1) := by decide +kernel
theorem dX7_rowInOrder_34 : decode cX7_rowInOrder 34 = .ok (.iadd, 1) := by decide +kernel
theorem dX7_rowInOrder_35 : decode cX7_rowInOrder 35 = .ok (.iload_n 3, 1) := by decide +kernel
theorem dX7_rowInOrder_36 : decode cX7_rowInOrder 36 = .ok (.imul, 1) := by decide +kernel
theorem dX7_rowInOrder_37 : decode cX7_rowInOrder 37 = .ok (.iadd, 1) := by decide +kernel
theorem dX7_rowInOrder_38 : decode cX7_rowInOrder 38 = .ok (.istore_n 2, 1) := by decide +kernel
theorem dX7_rowInOrder_39 : decode cX7_rowInOrder 39 = .ok (.iload_n 3, 1) := by decide +kernel
theorem dX7_rowInOrder_40 : decode cX7_rowInOrder 40 = .ok (.bipush 10, 2) := by decide +kernel
theorem dX7_rowInOrder_42 : decode cX7_rowInOrder 42 = .ok (.imul, 1) := by decide +kernel
theorem dX7_rowInOrder_43 : decode cX7_rowInOrder 43 = .ok (.istore_n 3, 1) := by decide +kernel
theorem dX7_rowInOrder_44 : decode cX7_rowInOrder 44 = .ok (.iload 4, 2) := by decide +kernel
theorem dX7_rowInOrder_46 : decode cX7_rowInOrder 46 = .ok (.iconst 1, 1) := by decide +kernel
theorem dX7_rowInOrder_47 : decode cX7_rowInOrder 47 = .ok (.isub, 1) := by decide +kernel
theorem dX7_rowInOrder_48 : decode cX7_rowInOrder 48 = .ok (.iload_n 1, 1) := by decide +kernel
theorem dX7_rowInOrder_49 : decode cX7_rowInOrder 49 = .ok (.idiv, 1) := by decide +kernel
theorem dX7_rowInOrder_50 : decode cX7_rowInOrder 50 = .ok (.istore 4, 2) := by decide +kernel
theorem dX7_rowInOrder_52 : decode cX7_rowInOrder 52 = .ok (.iinc 5 1, 3) := by decide +kernel
theorem dX7_rowInOrder_55 : decode cX7_rowInOrder 55 = .ok (.goto (-45), 3) := by decide +kernel
theorem dX7_rowInOrder_58 : decode cX7_rowInOrder 58 = .ok (.iload_n 2, 1) := by decide +kernel
theorem dX7_rowInOrder_59 : decode cX7_rowInOrder 59 = .ok (.ireturn, 1) := by decide +kernel
set_option maxRecDepth 20000 in
theorem ggX7_leastWord_X4_start : GoodIn wsX7_leastWord wsX4_start := goodIn_r _ [10, 11, 12, 13, 14, 15, 16, 17, 18, 19, 20, 21, 22, 23, 24, 25, 26, 27, 87, 88, 89, 90] (by decide +kernel) (by decide +kernel)
set_option maxRecDepth 20000 in
theorem gX7_leastWord_X4_start : GoodIn wsX7_leastWord (wsV RX7 205 RX4 yX4_start wsX4_start) := goodIn_app (goodIn_of _ (by decide +kernel)) ggX7_leastWord_X4_start
set_option maxRecDepth 20000 in
theorem ggX7_leastWord_X5_fromFirst : GoodIn wsX7_leastWord wsX5_fromFirst := goodIn_r _ [31, 17, 32, 33, 34, 15, 35, 27, 89, 90] (by decide +kernel) (by decide +kernel)
set_option maxRecDepth 20000 in
theorem gX7_leastWord_X5_fromFirst : GoodIn wsX7_leastWord (wsV RX7 102 RX5 yX5_fromFirst wsX5_fromFirst) := goodIn_app (goodIn_of _ (by decide +kernel)) ggX7_leastWord_X5_fromFirst
set_option maxRecDepth 20000 in
theorem ggX7_leastWord_X2_leastLetter : GoodIn wsX7_leastWord wsX2_leastLetter := goodIn_r _ [40, 41, 42, 43, 39, 44, 45, 46, 47, 48, 49, 50, 51, 52, 53, 54, 55, 56, 57, 58, 59, 60, 61, 62, 63, 64, 91, 92, 93] (by decide +kernel) (by decide +kernel)
set_option maxRecDepth 20000 in
theorem gX7_leastWord_X2_leastLetter : GoodIn wsX7_leastWord (wsV RX7 208 RX2 yX2_leastLetter wsX2_leastLetter) := goodIn_app (goodIn_of _ (by decide +kernel)) ggX7_leastWord_X2_leastLetter
set_option maxRecDepth 20000 in
theorem ggX7_leastWord_X4_step : GoodIn wsX7_leastWord wsX4_step := goodIn_r _ [68, 11, 69, 29, 30, 15, 31, 17, 32, 33, 34, 35, 27, 70, 46, 47, 48, 49, 50, 51, 52, 53, 54, 55, 71, 72, 73, 74, 75, 76, 77, 78, 18, 19, 20, 21, 22, 23, 24, 25, 26, 87, 88, 89, 90, 91, 92] (by decide +kernel) (by decide +kernel)
set_option maxRecDepth 20000 in
theorem gX7_leastWord_X4_step : GoodIn wsX7_leastWord (wsV RX7 212 RX4 yX4_step wsX4_step) := goodIn_app (goodIn_of _ (by decide +kernel)) ggX7_leastWord_X4_step
theorem dX7_leastWord_0 : decode cX7_leastWord 0 = .ok (.aload_n 0, 1) := by decide +kernel
theorem dX7_leastWord_1 : decode cX7_leastWord 1 = .ok (.getfield 28, 3) := by decide +kernel
theorem dX7_leastWord_4 : decode cX7_leastWord 4 = .ok (.iload_n 1, 1) := by decide +kernel
theorem dX7_leastWord_5 : decode cX7_leastWord 5 = .ok (.invokevirtual 205, 3) := by decide +kernel
theorem dX7_leastWord_8 : decode cX7_leastWord 8 = .ok (.lconst 0, 1) := by decide +kernel
theorem dX7_leastWord_9 : decode cX7_leastWord 9 = .ok (.lstore_n 3, 1) := by decide +kernel
theorem dX7_leastWord_10 : decode cX7_leastWord 10 = .ok (.iconst 0, 1) := by decide +kernel
theorem dX7_leastWord_11 : decode cX7_leastWord 11 = .ok (.istore 5, 2) := by decide +kernel
theorem dX7_leastWord_13 : decode cX7_leastWord 13 = .ok (.iload 5, 2) := by decide +kernel
theorem dX7_leastWord_15 : decode cX7_leastWord 15 = .ok (.iload_n 2, 1) := by decide +kernel
theorem dX7_leastWord_16 : decode cX7_leastWord 16 = .ok (.if_icmp .ge 59, 3) := by decide +kernel
theorem dX7_leastWord_19 : decode cX7_leastWord 19 = .ok (.aload_n 0, 1) := by decide +kernel
theorem dX7_leastWord_20 : decode cX7_leastWord 20 = .ok (.getfield 35, 3) := by decide +kernel
theorem dX7_leastWord_23 : decode cX7_leastWord 23 = .ok (.aload_n 0, 1) := by decide +kernel
theorem dX7_leastWord_24 : decode cX7_leastWord 24 = .ok (.getfield 12, 3) := by decide +kernel
theorem dX7_leastWord_27 : decode cX7_leastWord 27 = .ok (.aload_n 0, 1) := by decide +kernel
theorem dX7_leastWord_28 : decode cX7_leastWord 28 = .ok (.getfield 28, 3) := by decide +kernel
theorem dX7_leastWord_31 : decode cX7_leastWord 31 = .ok (.getfield 95, 3) := by decide +kernel
theorem dX7_leastWord_34 : decode cX7_leastWord 34 = .ok (.iconst 0, 1) := by decide +kernel
theorem dX7_leastWord_35 : decode cX7_leastWord 35 = .ok (.invokevirtual 102, 3) := by decide +kernel
theorem dX7_leastWord_38 : decode cX7_leastWord 38 = .ok (.invokevirtual 208, 3) := by decide +kernel
theorem dX7_leastWord_41 : decode cX7_leastWord 41 = .ok (.istore 6, 2) := by decide +kernel
theorem dX7_leastWord_43 : decode cX7_leastWord 43 = .ok (.aload_n 0, 1) := by decide +kernel
theorem dX7_leastWord_44 : decode cX7_leastWord 44 = .ok (.getfield 28, 3) := by decide +kernel
theorem dX7_leastWord_47 : decode cX7_leastWord 47 = .ok (.aload_n 0, 1) := by decide +kernel
theorem dX7_leastWord_48 : decode cX7_leastWord 48 = .ok (.getfield 12, 3) := by decide +kernel
theorem dX7_leastWord_51 : decode cX7_leastWord 51 = .ok (.iload 6, 2) := by decide +kernel
theorem dX7_leastWord_53 : decode cX7_leastWord 53 = .ok (.invokevirtual 212, 3) := by decide +kernel
theorem dX7_leastWord_56 : decode cX7_leastWord 56 = .ok (.pop, 1) := by decide +kernel
theorem dX7_leastWord_57 : decode cX7_leastWord 57 = .ok (.lload_n 3, 1) := by decide +kernel
theorem dX7_leastWord_58 : decode cX7_leastWord 58 = .ok (.ldc2_w 203, 3) := by decide +kernel
theorem dX7_leastWord_61 : decode cX7_leastWord 61 = .ok (.lmul, 1) := by decide +kernel
theorem dX7_leastWord_62 : decode cX7_leastWord 62 = .ok (.iload 6, 2) := by decide +kernel
theorem dX7_leastWord_64 : decode cX7_leastWord 64 = .ok (.i2l, 1) := by decide +kernel
theorem dX7_leastWord_65 : decode cX7_leastWord 65 = .ok (.ladd, 1) := by decide +kernel
theorem dX7_leastWord_66 : decode cX7_leastWord 66 = .ok (.lconst 1, 1) := by decide +kernel
theorem dX7_leastWord_67 : decode cX7_leastWord 67 = .ok (.ladd, 1) := by decide +kernel
theorem dX7_leastWord_68 : decode cX7_leastWord 68 = .ok (.lstore_n 3, 1) := by decide +kernel
theorem dX7_leastWord_69 : decode cX7_leastWord 69 = .ok (.iinc 5 1, 3) := by decide +kernel
theorem dX7_leastWord_72 : decode cX7_leastWord 72 = .ok (.goto (-59), 3) := by decide +kernel
theorem dX7_leastWord_75 : decode cX7_leastWord 75 = .ok (.lload_n 3, 1) := by decide +kernel
theorem dX7_leastWord_76 : decode cX7_leastWord 76 = .ok (.lreturn, 1) := by decide +kernel
set_option maxRecDepth 20000 in
theorem ggX7_goesThrough_X4_countRead : GoodIn wsX7_goesThrough wsX4_countRead := goodIn_r _ [8, 9, 10, 11, 12, 7, 13, 14, 15, 16, 17, 18, 19, 20, 21, 22, 23, 24, 25, 26, 27, 28, 29, 30, 31, 32, 33, 34, 35, 36, 37, 38, 39, 40, 41, 42, 43, 44, 45, 46, 47, 48, 49, 50, 51, 52, 53, 54, 55, 56, 57, 58, 59, 60, 61, 62, 63, 64, 65, 79, 80, 81, 82, 83, 84] (by decide +kernel) (by decide +kernel)
set_option maxRecDepth 20000 in
theorem gX7_goesThrough_X4_countRead : GoodIn wsX7_goesThrough (wsV RX7 91 RX4 yX4_countRead wsX4_countRead) := goodIn_app (goodIn_of _ (by decide +kernel)) ggX7_goesThrough_X4_countRead
set_option maxRecDepth 20000 in
theorem ggX7_goesThrough_X4_readsToEnd : GoodIn wsX7_goesThrough wsX4_readsToEnd := goodIn_r _ [69, 9, 31, 32, 33, 18, 34, 20, 79, 80, 81, 82] (by decide +kernel) (by decide +kernel)
set_option maxRecDepth 20000 in
theorem gX7_goesThrough_X4_readsToEnd : GoodIn wsX7_goesThrough (wsV RX7 106 RX4 yX4_readsToEnd wsX4_readsToEnd) := goodIn_app (goodIn_of _ (by decide +kernel)) ggX7_goesThrough_X4_readsToEnd
set_option maxRecDepth 20000 in
theorem ggX7_goesThrough_X5_size : GoodIn wsX7_goesThrough wsX5_size := goodIn_r _ [34, 20, 81, 82] (by decide +kernel) (by decide +kernel)
set_option maxRecDepth 20000 in
theorem gX7_goesThrough_X5_size : GoodIn wsX7_goesThrough (wsV RX7 98 RX5 yX5_size wsX5_size) := goodIn_app (goodIn_of _ (by decide +kernel)) ggX7_goesThrough_X5_size
theorem dX7_goesThrough_0 : decode cX7_goesThrough 0 = .ok (.aload_n 0, 1) := by decide +kernel
theorem dX7_goesThrough_1 : decode cX7_goesThrough 1 = .ok (.getfield 28, 3) := by decide +kernel
theorem dX7_goesThrough_4 : decode cX7_goesThrough 4 = .ok (.aload_n 0, 1) := by decide +kernel
theorem dX7_goesThrough_5 : decode cX7_goesThrough 5 = .ok (.getfield 12, 3) := by decide +kernel
theorem dX7_goesThrough_8 : decode cX7_goesThrough 8 = .ok (.iload_n 1, 1) := by decide +kernel
theorem dX7_goesThrough_9 : decode cX7_goesThrough 9 = .ok (.iload_n 2, 1) := by decide +kernel
theorem dX7_goesThrough_10 : decode cX7_goesThrough 10 = .ok (.i2l, 1) := by decide +kernel
theorem dX7_goesThrough_11 : decode cX7_goesThrough 11 = .ok (.invokevirtual 91, 3) := by decide +kernel
theorem dX7_goesThrough_14 : decode cX7_goesThrough 14 = .ok (.pop, 1) := by decide +kernel
theorem dX7_goesThrough_15 : decode cX7_goesThrough 15 = .ok (.aload_n 0, 1) := by decide +kernel
theorem dX7_goesThrough_16 : decode cX7_goesThrough 16 = .ok (.getfield 28, 3) := by decide +kernel
theorem dX7_goesThrough_19 : decode cX7_goesThrough 19 = .ok (.invokevirtual 106, 3) := by decide +kernel
theorem dX7_goesThrough_22 : decode cX7_goesThrough 22 = .ok (.ifCond .eq 25, 3) := by decide +kernel
theorem dX7_goesThrough_25 : decode cX7_goesThrough 25 = .ok (.iload_n 3, 1) := by decide +kernel
theorem dX7_goesThrough_26 : decode cX7_goesThrough 26 = .ok (.iconst 1, 1) := by decide +kernel
theorem dX7_goesThrough_27 : decode cX7_goesThrough 27 = .ok (.if_icmp .eq 16, 3) := by decide +kernel
theorem dX7_goesThrough_30 : decode cX7_goesThrough 30 = .ok (.aload_n 0, 1) := by decide +kernel
theorem dX7_goesThrough_31 : decode cX7_goesThrough 31 = .ok (.getfield 28, 3) := by decide +kernel
theorem dX7_goesThrough_34 : decode cX7_goesThrough 34 = .ok (.getfield 95, 3) := by decide +kernel
theorem dX7_goesThrough_37 : decode cX7_goesThrough 37 = .ok (.invokevirtual 98, 3) := by decide +kernel
theorem dX7_goesThrough_40 : decode cX7_goesThrough 40 = .ok (.ifCond .ne 7, 3) := by decide +kernel
theorem dX7_goesThrough_43 : decode cX7_goesThrough 43 = .ok (.iconst 1, 1) := by decide +kernel
theorem dX7_goesThrough_44 : decode cX7_goesThrough 44 = .ok (.goto 4, 3) := by decide +kernel
theorem dX7_goesThrough_47 : decode cX7_goesThrough 47 = .ok (.iconst 0, 1) := by decide +kernel
theorem dX7_goesThrough_48 : decode cX7_goesThrough 48 = .ok (.ireturn, 1) := by decide +kernel
set_option maxRecDepth 20000 in
theorem ggX7_firstsOfRules_X6_ruleOf : GoodIn wsX7_firstsOfRules wsX6_ruleOf := goodIn_r _ [7, 8, 9, 10, 11, 12, 13, 32, 33] (by decide +kernel) (by decide +kernel)
set_option maxRecDepth 20000 in
theorem gX7_firstsOfRules_X6_ruleOf : GoodIn wsX7_firstsOfRules (wsV RX7 80 RX6 yX6_ruleOf wsX6_ruleOf) := goodIn_app (goodIn_of _ (by decide +kernel)) ggX7_firstsOfRules_X6_ruleOf
set_option maxRecDepth 20000 in
theorem ggX7_firstsOfRules_X2_firstsWithin : GoodIn wsX7_firstsOfRules wsX2_firstsWithin := goodIn_r _ [18, 19, 20, 21, 17, 22, 23, 9, 10, 11, 34] (by decide +kernel) (by decide +kernel)
set_option maxRecDepth 20000 in
theorem gX7_firstsOfRules_X2_firstsWithin : GoodIn wsX7_firstsOfRules (wsV RX7 136 RX2 yX2_firstsWithin wsX2_firstsWithin) := goodIn_app (goodIn_of _ (by decide +kernel)) ggX7_firstsOfRules_X2_firstsWithin
theorem dX7_firstsOfRules_0 : decode cX7_firstsOfRules 0 = .ok (.iconst 0, 1) := by decide +kernel
theorem dX7_firstsOfRules_1 : decode cX7_firstsOfRules 1 = .ok (.istore_n 2, 1) := by decide +kernel
theorem dX7_firstsOfRules_2 : decode cX7_firstsOfRules 2 = .ok (.iconst 0, 1) := by decide +kernel
theorem dX7_firstsOfRules_3 : decode cX7_firstsOfRules 3 = .ok (.istore_n 3, 1) := by decide +kernel
theorem dX7_firstsOfRules_4 : decode cX7_firstsOfRules 4 = .ok (.iload_n 3, 1) := by decide +kernel
theorem dX7_firstsOfRules_5 : decode cX7_firstsOfRules 5 = .ok (.bipush 6, 2) := by decide +kernel
theorem dX7_firstsOfRules_7 : decode cX7_firstsOfRules 7 = .ok (.if_icmp .ge 53, 3) := by decide +kernel
theorem dX7_firstsOfRules_10 : decode cX7_firstsOfRules 10 = .ok (.iconst 0, 1) := by decide +kernel
theorem dX7_firstsOfRules_11 : decode cX7_firstsOfRules 11 = .ok (.istore 4, 2) := by decide +kernel
theorem dX7_firstsOfRules_13 : decode cX7_firstsOfRules 13 = .ok (.iload 4, 2) := by decide +kernel
theorem dX7_firstsOfRules_15 : decode cX7_firstsOfRules 15 = .ok (.iconst 3, 1) := by decide +kernel
theorem dX7_firstsOfRules_16 : decode cX7_firstsOfRules 16 = .ok (.if_icmp .ge 38, 3) := by decide +kernel
theorem dX7_firstsOfRules_19 : decode cX7_firstsOfRules 19 = .ok (.iload_n 1, 1) := by decide +kernel
theorem dX7_firstsOfRules_20 : decode cX7_firstsOfRules 20 = .ok (.iload_n 3, 1) := by decide +kernel
theorem dX7_firstsOfRules_21 : decode cX7_firstsOfRules 21 = .ok (.ishr, 1) := by decide +kernel
theorem dX7_firstsOfRules_22 : decode cX7_firstsOfRules 22 = .ok (.iconst 1, 1) := by decide +kernel
theorem dX7_firstsOfRules_23 : decode cX7_firstsOfRules 23 = .ok (.iand, 1) := by decide +kernel
theorem dX7_firstsOfRules_24 : decode cX7_firstsOfRules 24 = .ok (.iconst 1, 1) := by decide +kernel
theorem dX7_firstsOfRules_25 : decode cX7_firstsOfRules 25 = .ok (.if_icmp .ne 23, 3) := by decide +kernel
theorem dX7_firstsOfRules_28 : decode cX7_firstsOfRules 28 = .ok (.iload_n 2, 1) := by decide +kernel
theorem dX7_firstsOfRules_29 : decode cX7_firstsOfRules 29 = .ok (.aload_n 0, 1) := by decide +kernel
theorem dX7_firstsOfRules_30 : decode cX7_firstsOfRules 30 = .ok (.getfield 35, 3) := by decide +kernel
theorem dX7_firstsOfRules_33 : decode cX7_firstsOfRules 33 = .ok (.aload_n 0, 1) := by decide +kernel
theorem dX7_firstsOfRules_34 : decode cX7_firstsOfRules 34 = .ok (.getfield 12, 3) := by decide +kernel
theorem dX7_firstsOfRules_37 : decode cX7_firstsOfRules 37 = .ok (.iload_n 3, 1) := by decide +kernel
theorem dX7_firstsOfRules_38 : decode cX7_firstsOfRules 38 = .ok (.iload 4, 2) := by decide +kernel
theorem dX7_firstsOfRules_40 : decode cX7_firstsOfRules 40 = .ok (.invokevirtual 80, 3) := by decide +kernel
theorem dX7_firstsOfRules_43 : decode cX7_firstsOfRules 43 = .ok (.invokevirtual 136, 3) := by decide +kernel
theorem dX7_firstsOfRules_46 : decode cX7_firstsOfRules 46 = .ok (.ior, 1) := by decide +kernel
theorem dX7_firstsOfRules_47 : decode cX7_firstsOfRules 47 = .ok (.istore_n 2, 1) := by decide +kernel
theorem dX7_firstsOfRules_48 : decode cX7_firstsOfRules 48 = .ok (.iinc 4 1, 3) := by decide +kernel
theorem dX7_firstsOfRules_51 : decode cX7_firstsOfRules 51 = .ok (.goto (-38), 3) := by decide +kernel
theorem dX7_firstsOfRules_54 : decode cX7_firstsOfRules 54 = .ok (.iinc 3 1, 3) := by decide +kernel
theorem dX7_firstsOfRules_57 : decode cX7_firstsOfRules 57 = .ok (.goto (-53), 3) := by decide +kernel
theorem dX7_firstsOfRules_60 : decode cX7_firstsOfRules 60 = .ok (.iload_n 2, 1) := by decide +kernel
theorem dX7_firstsOfRules_61 : decode cX7_firstsOfRules 61 = .ok (.ireturn, 1) := by decide +kernel
set_option maxRecDepth 20000 in
theorem ggX7_reduceBoth_X1_find : GoodIn wsX7_reduceBoth wsX1_find := goodIn_r _ [9, 10, 11, 12, 13, 14, 15, 16, 17, 18, 19, 20, 21, 22, 23, 24, 25, 26, 27, 28, 29, 30, 31, 32, 33, 8, 34, 35, 36, 37, 38, 39, 40, 41, 42, 53, 54, 55, 56, 57] (by decide +kernel) (by decide +kernel)
set_option maxRecDepth 20000 in
theorem gX7_reduceBoth_X1_find : GoodIn wsX7_reduceBoth (wsV RX7 149 RX1 yX1_find wsX1_find) := goodIn_app (goodIn_of _ (by decide +kernel)) ggX7_reduceBoth_X1_find
set_option maxRecDepth 20000 in
theorem ggX7_reduceBoth_X5_clear : GoodIn wsX7_reduceBoth wsX5_clear := goodIn_r _ [24, 25, 56, 57] (by decide +kernel) (by decide +kernel)
set_option maxRecDepth 20000 in
theorem gX7_reduceBoth_X5_clear : GoodIn wsX7_reduceBoth (wsV RX7 150 RX5 yX5_clear wsX5_clear) := goodIn_app (goodIn_of _ (by decide +kernel)) ggX7_reduceBoth_X5_clear
set_option maxRecDepth 20000 in
theorem ggX7_reduceBoth_X1_putAhead : GoodIn wsX7_reduceBoth wsX1_putAhead := goodIn_r _ [34, 10, 17, 18, 19, 35, 36, 37, 23, 38, 25, 30, 39, 40, 41, 42, 53, 56, 57] (by decide +kernel) (by decide +kernel)
set_option maxRecDepth 20000 in
theorem gX7_reduceBoth_X1_putAhead : GoodIn wsX7_reduceBoth (wsV RX7 153 RX1 yX1_putAhead wsX1_putAhead) := goodIn_app (goodIn_of _ (by decide +kernel)) ggX7_reduceBoth_X1_putAhead
theorem dX7_reduceBoth_0 : decode cX7_reduceBoth 0 = .ok (.aload_n 0, 1) := by decide +kernel
theorem dX7_reduceBoth_1 : decode cX7_reduceBoth 1 = .ok (.getfield 49, 3) := by decide +kernel
theorem dX7_reduceBoth_4 : decode cX7_reduceBoth 4 = .ok (.aload_n 0, 1) := by decide +kernel
theorem dX7_reduceBoth_5 : decode cX7_reduceBoth 5 = .ok (.getfield 12, 3) := by decide +kernel
theorem dX7_reduceBoth_8 : decode cX7_reduceBoth 8 = .ok (.invokevirtual 149, 3) := by decide +kernel
theorem dX7_reduceBoth_11 : decode cX7_reduceBoth 11 = .ok (.aload_n 0, 1) := by decide +kernel
theorem dX7_reduceBoth_12 : decode cX7_reduceBoth 12 = .ok (.getfield 58, 3) := by decide +kernel
theorem dX7_reduceBoth_15 : decode cX7_reduceBoth 15 = .ok (.invokevirtual 150, 3) := by decide +kernel
theorem dX7_reduceBoth_18 : decode cX7_reduceBoth 18 = .ok (.aload_n 0, 1) := by decide +kernel
theorem dX7_reduceBoth_19 : decode cX7_reduceBoth 19 = .ok (.getfield 49, 3) := by decide +kernel
theorem dX7_reduceBoth_22 : decode cX7_reduceBoth 22 = .ok (.aload_n 0, 1) := by decide +kernel
theorem dX7_reduceBoth_23 : decode cX7_reduceBoth 23 = .ok (.getfield 58, 3) := by decide +kernel
theorem dX7_reduceBoth_26 : decode cX7_reduceBoth 26 = .ok (.iload_n 1, 1) := by decide +kernel
theorem dX7_reduceBoth_27 : decode cX7_reduceBoth 27 = .ok (.invokevirtual 153, 3) := by decide +kernel
theorem dX7_reduceBoth_30 : decode cX7_reduceBoth 30 = .ok (.aload_n 0, 1) := by decide +kernel
theorem dX7_reduceBoth_31 : decode cX7_reduceBoth 31 = .ok (.getfield 62, 3) := by decide +kernel
theorem dX7_reduceBoth_34 : decode cX7_reduceBoth 34 = .ok (.invokevirtual 150, 3) := by decide +kernel
theorem dX7_reduceBoth_37 : decode cX7_reduceBoth 37 = .ok (.aload_n 0, 1) := by decide +kernel
theorem dX7_reduceBoth_38 : decode cX7_reduceBoth 38 = .ok (.getfield 49, 3) := by decide +kernel
theorem dX7_reduceBoth_41 : decode cX7_reduceBoth 41 = .ok (.aload_n 0, 1) := by decide +kernel
theorem dX7_reduceBoth_42 : decode cX7_reduceBoth 42 = .ok (.getfield 62, 3) := by decide +kernel
theorem dX7_reduceBoth_45 : decode cX7_reduceBoth 45 = .ok (.iload_n 2, 1) := by decide +kernel
theorem dX7_reduceBoth_46 : decode cX7_reduceBoth 46 = .ok (.invokevirtual 153, 3) := by decide +kernel
theorem dX7_reduceBoth_49 : decode cX7_reduceBoth 49 = .ok (.return_, 1) := by decide +kernel
set_option maxRecDepth 20000 in
theorem ggX7_brokenClaims_X1_find : GoodIn wsX7_brokenClaims wsX1_find := goodIn_r _ [7, 8, 9, 10, 11, 12, 13, 14, 15, 16, 17, 18, 19, 20, 21, 22, 23, 24, 25, 26, 27, 28, 29, 30, 31, 6, 32, 33, 34, 35, 36, 37, 38, 39, 40, 88, 89, 90, 91, 92] (by decide +kernel) (by decide +kernel)
set_option maxRecDepth 20000 in
theorem gX7_brokenClaims_X1_find : GoodIn wsX7_brokenClaims (wsV RX7 149 RX1 yX1_find wsX1_find) := goodIn_app (goodIn_of _ (by decide +kernel)) ggX7_brokenClaims_X1_find
set_option maxRecDepth 20000 in
theorem ggX7_brokenClaims_X7_breakingLetter : GoodIn wsX7_brokenClaims wsX7_breakingLetter := goodIn_r _ [44, 2, 45, 10, 11, 12, 13, 14, 15, 16, 17, 46, 47, 48, 49, 50, 1, 51, 52, 53, 54, 55, 56, 57, 58, 59, 60, 61, 62, 19, 20, 21, 22, 23, 63, 30, 31, 6, 32, 8, 33, 34, 35, 36, 28, 37, 38, 39, 40, 64, 65, 66, 67, 68, 69, 70, 71, 72, 73, 74, 75, 76, 77, 78, 79, 80, 81, 82, 83, 84, 85, 86, 87, 89, 90, 91, 92, 88] (by decide +kernel) (by decide +kernel)
set_option maxRecDepth 20000 in
theorem gX7_brokenClaims_X7_breakingLetter : GoodIn wsX7_brokenClaims (wsV RX7 171 RX7 yX7_breakingLetter wsX7_breakingLetter) := goodIn_app (goodIn_of _ (by decide +kernel)) ggX7_brokenClaims_X7_breakingLetter
theorem dX7_brokenClaims_0 : decode cX7_brokenClaims 0 = .ok (.aload_n 0, 1) := by decide +kernel
theorem dX7_brokenClaims_1 : decode cX7_brokenClaims 1 = .ok (.getfield 49, 3) := by decide +kernel
theorem dX7_brokenClaims_4 : decode cX7_brokenClaims 4 = .ok (.aload_n 0, 1) := by decide +kernel
theorem dX7_brokenClaims_5 : decode cX7_brokenClaims 5 = .ok (.getfield 12, 3) := by decide +kernel
theorem dX7_brokenClaims_8 : decode cX7_brokenClaims 8 = .ok (.invokevirtual 149, 3) := by decide +kernel
theorem dX7_brokenClaims_11 : decode cX7_brokenClaims 11 = .ok (.iconst 0, 1) := by decide +kernel
theorem dX7_brokenClaims_12 : decode cX7_brokenClaims 12 = .ok (.istore_n 1, 1) := by decide +kernel
theorem dX7_brokenClaims_13 : decode cX7_brokenClaims 13 = .ok (.iconst 0, 1) := by decide +kernel
theorem dX7_brokenClaims_14 : decode cX7_brokenClaims 14 = .ok (.istore_n 2, 1) := by decide +kernel
theorem dX7_brokenClaims_15 : decode cX7_brokenClaims 15 = .ok (.iload_n 2, 1) := by decide +kernel
theorem dX7_brokenClaims_16 : decode cX7_brokenClaims 16 = .ok (.bipush 6, 2) := by decide +kernel
theorem dX7_brokenClaims_18 : decode cX7_brokenClaims 18 = .ok (.if_icmp .ge 25, 3) := by decide +kernel
theorem dX7_brokenClaims_21 : decode cX7_brokenClaims 21 = .ok (.aload_n 0, 1) := by decide +kernel
theorem dX7_brokenClaims_22 : decode cX7_brokenClaims 22 = .ok (.iload_n 2, 1) := by decide +kernel
theorem dX7_brokenClaims_23 : decode cX7_brokenClaims 23 = .ok (.invokevirtual 171, 3) := by decide +kernel
theorem dX7_brokenClaims_26 : decode cX7_brokenClaims 26 = .ok (.bipush (-9), 2) := by decide +kernel
theorem dX7_brokenClaims_28 : decode cX7_brokenClaims 28 = .ok (.if_icmp .eq 9, 3) := by decide +kernel
theorem dX7_brokenClaims_31 : decode cX7_brokenClaims 31 = .ok (.iload_n 1, 1) := by decide +kernel
theorem dX7_brokenClaims_32 : decode cX7_brokenClaims 32 = .ok (.iconst 1, 1) := by decide +kernel
theorem dX7_brokenClaims_33 : decode cX7_brokenClaims 33 = .ok (.iload_n 2, 1) := by decide +kernel
theorem dX7_brokenClaims_34 : decode cX7_brokenClaims 34 = .ok (.ishl, 1) := by decide +kernel
theorem dX7_brokenClaims_35 : decode cX7_brokenClaims 35 = .ok (.ior, 1) := by decide +kernel
theorem dX7_brokenClaims_36 : decode cX7_brokenClaims 36 = .ok (.istore_n 1, 1) := by decide +kernel
theorem dX7_brokenClaims_37 : decode cX7_brokenClaims 37 = .ok (.iinc 2 1, 3) := by decide +kernel
theorem dX7_brokenClaims_40 : decode cX7_brokenClaims 40 = .ok (.goto (-25), 3) := by decide +kernel
theorem dX7_brokenClaims_43 : decode cX7_brokenClaims 43 = .ok (.iload_n 1, 1) := by decide +kernel
theorem dX7_brokenClaims_44 : decode cX7_brokenClaims 44 = .ok (.ireturn, 1) := by decide +kernel
set_option maxRecDepth 20000 in
theorem ggX7_removeClaims_X6_setClaim : GoodIn wsX7_removeClaims wsX6_setClaim := goodIn_r _ [6, 7, 8, 9, 10, 19, 20] (by decide +kernel) (by decide +kernel)
set_option maxRecDepth 20000 in
theorem gX7_removeClaims_X6_setClaim : GoodIn wsX7_removeClaims (wsV RX7 145 RX6 yX6_setClaim wsX6_setClaim) := goodIn_app (goodIn_of _ (by decide +kernel)) ggX7_removeClaims_X6_setClaim
theorem dX7_removeClaims_0 : decode cX7_removeClaims 0 = .ok (.iconst 0, 1) := by decide +kernel
theorem dX7_removeClaims_1 : decode cX7_removeClaims 1 = .ok (.istore_n 2, 1) := by decide +kernel
theorem dX7_removeClaims_2 : decode cX7_removeClaims 2 = .ok (.iload_n 2, 1) := by decide +kernel
theorem dX7_removeClaims_3 : decode cX7_removeClaims 3 = .ok (.bipush 6, 2) := by decide +kernel
theorem dX7_removeClaims_5 : decode cX7_removeClaims 5 = .ok (.if_icmp .ge 28, 3) := by decide +kernel
theorem dX7_removeClaims_8 : decode cX7_removeClaims 8 = .ok (.iload_n 1, 1) := by decide +kernel
theorem dX7_removeClaims_9 : decode cX7_removeClaims 9 = .ok (.iload_n 2, 1) := by decide +kernel
theorem dX7_removeClaims_10 : decode cX7_removeClaims 10 = .ok (.ishr, 1) := by decide +kernel
theorem dX7_removeClaims_11 : decode cX7_removeClaims 11 = .ok (.iconst 1, 1) := by decide +kernel
theorem dX7_removeClaims_12 : decode cX7_removeClaims 12 = .ok (.iand, 1) := by decide +kernel
theorem dX7_removeClaims_13 : decode cX7_removeClaims 13 = .ok (.iconst 1, 1) := by decide +kernel
theorem dX7_removeClaims_14 : decode cX7_removeClaims 14 = .ok (.if_icmp .ne 13, 3) := by decide +kernel
theorem dX7_removeClaims_17 : decode cX7_removeClaims 17 = .ok (.aload_n 0, 1) := by decide +kernel
theorem dX7_removeClaims_18 : decode cX7_removeClaims 18 = .ok (.getfield 12, 3) := by decide +kernel
theorem dX7_removeClaims_21 : decode cX7_removeClaims 21 = .ok (.iload_n 2, 1) := by decide +kernel
theorem dX7_removeClaims_22 : decode cX7_removeClaims 22 = .ok (.bipush (-9), 2) := by decide +kernel
theorem dX7_removeClaims_24 : decode cX7_removeClaims 24 = .ok (.invokevirtual 145, 3) := by decide +kernel
theorem dX7_removeClaims_27 : decode cX7_removeClaims 27 = .ok (.iinc 2 1, 3) := by decide +kernel
theorem dX7_removeClaims_30 : decode cX7_removeClaims 30 = .ok (.goto (-28), 3) := by decide +kernel
theorem dX7_removeClaims_33 : decode cX7_removeClaims 33 = .ok (.return_, 1) := by decide +kernel
set_option maxRecDepth 20000 in
theorem ggX7_breakingLetter_X6_claimOf : GoodIn wsX7_breakingLetter wsX6_claimOf := goodIn_r _ [6, 7, 8, 9, 10, 73, 74] (by decide +kernel) (by decide +kernel)
set_option maxRecDepth 20000 in
theorem gX7_breakingLetter_X6_claimOf : GoodIn wsX7_breakingLetter (wsV RX7 142 RX6 yX6_claimOf wsX6_claimOf) := goodIn_app (goodIn_of _ (by decide +kernel)) ggX7_breakingLetter_X6_claimOf
set_option maxRecDepth 20000 in
theorem ggX7_breakingLetter_X7_isBrokenBy : GoodIn wsX7_breakingLetter wsX7_isBrokenBy := goodIn_r _ [14, 1, 15, 16, 17, 18, 19, 9, 20, 21, 22, 23, 5, 24, 25, 8, 10, 26, 27, 28, 29, 30, 31, 32, 33, 34, 35, 36, 37, 38, 39, 40, 41, 42, 43, 44, 45, 46, 47, 48, 49, 50, 51, 52, 53, 54, 55, 56, 57, 58, 59, 60, 61, 62, 63, 64, 65, 66, 67, 68, 69, 70, 71, 72, 73, 74, 75, 76, 77] (by decide +kernel) (by decide +kernel)
set_option maxRecDepth 20000 in
theorem gX7_breakingLetter_X7_isBrokenBy : GoodIn wsX7_breakingLetter (wsV RX7 216 RX7 yX7_isBrokenBy wsX7_isBrokenBy) := goodIn_app (goodIn_of _ (by decide +kernel)) ggX7_breakingLetter_X7_isBrokenBy
theorem dX7_breakingLetter_0 : decode cX7_breakingLetter 0 = .ok (.aload_n 0, 1) := by decide +kernel
theorem dX7_breakingLetter_1 : decode cX7_breakingLetter 1 = .ok (.getfield 12, 3) := by decide +kernel
theorem dX7_breakingLetter_4 : decode cX7_breakingLetter 4 = .ok (.iload_n 1, 1) := by decide +kernel
theorem dX7_breakingLetter_5 : decode cX7_breakingLetter 5 = .ok (.invokevirtual 142, 3) := by decide +kernel
theorem dX7_breakingLetter_8 : decode cX7_breakingLetter 8 = .ok (.istore_n 2, 1) := by decide +kernel
theorem dX7_breakingLetter_9 : decode cX7_breakingLetter 9 = .ok (.iconst 0, 1) := by decide +kernel
theorem dX7_breakingLetter_10 : decode cX7_breakingLetter 10 = .ok (.istore_n 3, 1) := by decide +kernel
theorem dX7_breakingLetter_11 : decode cX7_breakingLetter 11 = .ok (.iload_n 3, 1) := by decide +kernel
theorem dX7_breakingLetter_12 : decode cX7_breakingLetter 12 = .ok (.iconst 3, 1) := by decide +kernel
theorem dX7_breakingLetter_13 : decode cX7_breakingLetter 13 = .ok (.if_icmp .ge 27, 3) := by decide +kernel
theorem dX7_breakingLetter_16 : decode cX7_breakingLetter 16 = .ok (.iload_n 2, 1) := by decide +kernel
theorem dX7_breakingLetter_17 : decode cX7_breakingLetter 17 = .ok (.bipush (-9), 2) := by decide +kernel
theorem dX7_breakingLetter_19 : decode cX7_breakingLetter 19 = .ok (.if_icmp .eq 21, 3) := by decide +kernel
theorem dX7_breakingLetter_22 : decode cX7_breakingLetter 22 = .ok (.aload_n 0, 1) := by decide +kernel
theorem dX7_breakingLetter_23 : decode cX7_breakingLetter 23 = .ok (.iload_n 1, 1) := by decide +kernel
theorem dX7_breakingLetter_24 : decode cX7_breakingLetter 24 = .ok (.iload_n 2, 1) := by decide +kernel
theorem dX7_breakingLetter_25 : decode cX7_breakingLetter 25 = .ok (.iload_n 3, 1) := by decide +kernel
theorem dX7_breakingLetter_26 : decode cX7_breakingLetter 26 = .ok (.invokevirtual 216, 3) := by decide +kernel
theorem dX7_breakingLetter_29 : decode cX7_breakingLetter 29 = .ok (.ifCond .eq 5, 3) := by decide +kernel
theorem dX7_breakingLetter_32 : decode cX7_breakingLetter 32 = .ok (.iload_n 3, 1) := by decide +kernel
theorem dX7_breakingLetter_33 : decode cX7_breakingLetter 33 = .ok (.ireturn, 1) := by decide +kernel
theorem dX7_breakingLetter_34 : decode cX7_breakingLetter 34 = .ok (.iinc 3 1, 3) := by decide +kernel
theorem dX7_breakingLetter_37 : decode cX7_breakingLetter 37 = .ok (.goto (-26), 3) := by decide +kernel
theorem dX7_breakingLetter_40 : decode cX7_breakingLetter 40 = .ok (.bipush (-9), 2) := by decide +kernel
theorem dX7_breakingLetter_42 : decode cX7_breakingLetter 42 = .ok (.ireturn, 1) := by decide +kernel
set_option maxRecDepth 20000 in
theorem ggX7_isBrokenBy_X7_firstUnit : GoodIn wsX7_isBrokenBy wsX7_firstUnit := goodIn_r _ [8] (by decide +kernel) (by decide +kernel)
set_option maxRecDepth 20000 in
theorem gX7_isBrokenBy_X7_firstUnit : GoodIn wsX7_isBrokenBy (va_wsS RX7 219 yX7_firstUnit wsX7_firstUnit) := goodIn_app (goodIn_of _ (by decide +kernel)) ggX7_isBrokenBy_X7_firstUnit
set_option maxRecDepth 20000 in
theorem ggX7_isBrokenBy_X6_ruleOf : GoodIn wsX7_isBrokenBy wsX6_ruleOf := goodIn_r _ [13, 14, 15, 7, 16, 17, 18, 64, 65] (by decide +kernel) (by decide +kernel)
set_option maxRecDepth 20000 in
theorem gX7_isBrokenBy_X6_ruleOf : GoodIn wsX7_isBrokenBy (wsV RX7 80 RX6 yX6_ruleOf wsX6_ruleOf) := goodIn_app (goodIn_of _ (by decide +kernel)) ggX7_isBrokenBy_X6_ruleOf
set_option maxRecDepth 20000 in
theorem ggX7_isBrokenBy_X5_clear : GoodIn wsX7_isBrokenBy wsX5_clear := goodIn_r _ [23, 24, 66, 67] (by decide +kernel) (by decide +kernel)
set_option maxRecDepth 20000 in
theorem gX7_isBrokenBy_X5_clear : GoodIn wsX7_isBrokenBy (wsV RX7 150 RX5 yX5_clear wsX5_clear) := goodIn_app (goodIn_of _ (by decide +kernel)) ggX7_isBrokenBy_X5_clear
set_option maxRecDepth 20000 in
theorem ggX7_isBrokenBy_X1_putAhead : GoodIn wsX7_isBrokenBy wsX1_putAhead := goodIn_r _ [29, 30, 15, 7, 16, 31, 32, 33, 22, 34, 24, 35, 36, 37, 38, 39, 68, 66, 67] (by decide +kernel) (by decide +kernel)
set_option maxRecDepth 20000 in
theorem gX7_isBrokenBy_X1_putAhead : GoodIn wsX7_isBrokenBy (wsV RX7 153 RX1 yX1_putAhead wsX1_putAhead) := goodIn_app (goodIn_of _ (by decide +kernel)) ggX7_isBrokenBy_X1_putAhead
set_option maxRecDepth 20000 in
theorem ggX7_isBrokenBy_X5_isSame : GoodIn wsX7_isBrokenBy wsX5_isSame := goodIn_r _ [43, 24, 44, 45, 46, 22, 47, 48, 49, 50, 51, 52, 53, 54, 55, 35, 66, 67] (by decide +kernel) (by decide +kernel)
set_option maxRecDepth 20000 in
theorem gX7_isBrokenBy_X5_isSame : GoodIn wsX7_isBrokenBy (wsV RX7 160 RX5 yX5_isSame wsX5_isSame) := goodIn_app (goodIn_of _ (by decide +kernel)) ggX7_isBrokenBy_X5_isSame
theorem dX7_isBrokenBy_0 : decode cX7_isBrokenBy 0 = .ok (.iload_n 2, 1) := by decide +kernel
theorem dX7_isBrokenBy_1 : decode cX7_isBrokenBy 1 = .ok (.invokestatic 219, 3) := by decide +kernel
theorem dX7_isBrokenBy_4 : decode cX7_isBrokenBy 4 = .ok (.istore 4, 2) := by decide +kernel
theorem dX7_isBrokenBy_6 : decode cX7_isBrokenBy 6 = .ok (.aload_n 0, 1) := by decide +kernel
theorem dX7_isBrokenBy_7 : decode cX7_isBrokenBy 7 = .ok (.getfield 12, 3) := by decide +kernel
theorem dX7_isBrokenBy_10 : decode cX7_isBrokenBy 10 = .ok (.iload_n 1, 1) := by decide +kernel
theorem dX7_isBrokenBy_11 : decode cX7_isBrokenBy 11 = .ok (.iload_n 3, 1) := by decide +kernel
theorem dX7_isBrokenBy_12 : decode cX7_isBrokenBy 12 = .ok (.invokevirtual 80, 3) := by decide +kernel
theorem dX7_isBrokenBy_15 : decode cX7_isBrokenBy 15 = .ok (.istore 5, 2) := by decide +kernel
theorem dX7_isBrokenBy_17 : decode cX7_isBrokenBy 17 = .ok (.aload_n 0, 1) := by decide +kernel
theorem dX7_isBrokenBy_18 : decode cX7_isBrokenBy 18 = .ok (.getfield 12, 3) := by decide +kernel
theorem dX7_isBrokenBy_21 : decode cX7_isBrokenBy 21 = .ok (.iload_n 2, 1) := by decide +kernel
theorem dX7_isBrokenBy_22 : decode cX7_isBrokenBy 22 = .ok (.iload 4, 2) := by decide +kernel
theorem dX7_isBrokenBy_24 : decode cX7_isBrokenBy 24 = .ok (.idiv, 1) := by decide +kernel
theorem dX7_isBrokenBy_25 : decode cX7_isBrokenBy 25 = .ok (.iconst 1, 1) := by decide +kernel
theorem dX7_isBrokenBy_26 : decode cX7_isBrokenBy 26 = .ok (.isub, 1) := by decide +kernel
theorem dX7_isBrokenBy_27 : decode cX7_isBrokenBy 27 = .ok (.iload_n 3, 1) := by decide +kernel
theorem dX7_isBrokenBy_28 : decode cX7_isBrokenBy 28 = .ok (.invokevirtual 80, 3) := by decide +kernel
theorem dX7_isBrokenBy_31 : decode cX7_isBrokenBy 31 = .ok (.istore 6, 2) := by decide +kernel
theorem dX7_isBrokenBy_33 : decode cX7_isBrokenBy 33 = .ok (.iload 5, 2) := by decide +kernel
theorem dX7_isBrokenBy_35 : decode cX7_isBrokenBy 35 = .ok (.bipush (-9), 2) := by decide +kernel
theorem dX7_isBrokenBy_37 : decode cX7_isBrokenBy 37 = .ok (.if_icmp .eq 10, 3) := by decide +kernel
theorem dX7_isBrokenBy_40 : decode cX7_isBrokenBy 40 = .ok (.iload 6, 2) := by decide +kernel
theorem dX7_isBrokenBy_42 : decode cX7_isBrokenBy 42 = .ok (.bipush (-9), 2) := by decide +kernel
theorem dX7_isBrokenBy_44 : decode cX7_isBrokenBy 44 = .ok (.if_icmp .ne 16, 3) := by decide +kernel
theorem dX7_isBrokenBy_47 : decode cX7_isBrokenBy 47 = .ok (.iload 5, 2) := by decide +kernel
theorem dX7_isBrokenBy_49 : decode cX7_isBrokenBy 49 = .ok (.iload 6, 2) := by decide +kernel
theorem dX7_isBrokenBy_51 : decode cX7_isBrokenBy 51 = .ok (.if_icmp .eq 7, 3) := by decide +kernel
theorem dX7_isBrokenBy_54 : decode cX7_isBrokenBy 54 = .ok (.iconst 1, 1) := by decide +kernel
theorem dX7_isBrokenBy_55 : decode cX7_isBrokenBy 55 = .ok (.goto 4, 3) := by decide +kernel
theorem dX7_isBrokenBy_58 : decode cX7_isBrokenBy 58 = .ok (.iconst 0, 1) := by decide +kernel
theorem dX7_isBrokenBy_59 : decode cX7_isBrokenBy 59 = .ok (.ireturn, 1) := by decide +kernel
theorem dX7_isBrokenBy_60 : decode cX7_isBrokenBy 60 = .ok (.aload_n 0, 1) := by decide +kernel
theorem dX7_isBrokenBy_61 : decode cX7_isBrokenBy 61 = .ok (.getfield 58, 3) := by decide +kernel
theorem dX7_isBrokenBy_64 : decode cX7_isBrokenBy 64 = .ok (.invokevirtual 150, 3) := by decide +kernel
theorem dX7_isBrokenBy_67 : decode cX7_isBrokenBy 67 = .ok (.aload_n 0, 1) := by decide +kernel
theorem dX7_isBrokenBy_68 : decode cX7_isBrokenBy 68 = .ok (.getfield 49, 3) := by decide +kernel
theorem dX7_isBrokenBy_71 : decode cX7_isBrokenBy 71 = .ok (.aload_n 0, 1) := by decide +kernel
theorem dX7_isBrokenBy_72 : decode cX7_isBrokenBy 72 = .ok (.getfield 58, 3) := by decide +kernel
theorem dX7_isBrokenBy_75 : decode cX7_isBrokenBy 75 = .ok (.iload 5, 2) := by decide +kernel
theorem dX7_isBrokenBy_77 : decode cX7_isBrokenBy 77 = .ok (.invokevirtual 153, 3) := by decide +kernel
theorem dX7_isBrokenBy_80 : decode cX7_isBrokenBy 80 = .ok (.aload_n 0, 1) := by decide +kernel
theorem dX7_isBrokenBy_81 : decode cX7_isBrokenBy 81 = .ok (.getfield 62, 3) := by decide +kernel
theorem dX7_isBrokenBy_84 : decode cX7_isBrokenBy 84 = .ok (.invokevirtual 150, 3) := by decide +kernel
theorem dX7_isBrokenBy_87 : decode cX7_isBrokenBy 87 = .ok (.aload_n 0, 1) := by decide +kernel
theorem dX7_isBrokenBy_88 : decode cX7_isBrokenBy 88 = .ok (.getfield 49, 3) := by decide +kernel
end
section
theorem dX7_isBrokenBy_91 : decode cX7_isBrokenBy 91 = .ok (.aload_n 0, 1) := by decide +kernel
theorem dX7_isBrokenBy_92 : decode cX7_isBrokenBy 92 = .ok (.getfield 62, 3) := by decide +kernel
theorem dX7_isBrokenBy_95 : decode cX7_isBrokenBy 95 = .ok (.iload_n 2, 1) := by decide +kernel
theorem dX7_isBrokenBy_96 : decode cX7_isBrokenBy 96 = .ok (.iload 4, 2) := by decide +kernel
theorem dX7_isBrokenBy_98 : decode cX7_isBrokenBy 98 = .ok (.irem, 1) := by decide +kernel
theorem dX7_isBrokenBy_99 : decode cX7_isBrokenBy 99 = .ok (.invokevirtual 153, 3) := by decide +kernel
theorem dX7_isBrokenBy_102 : decode cX7_isBrokenBy 102 = .ok (.aload_n 0, 1) := by decide +kernel
theorem dX7_isBrokenBy_103 : decode cX7_isBrokenBy 103 = .ok (.getfield 49, 3) := by decide +kernel
theorem dX7_isBrokenBy_106 : decode cX7_isBrokenBy 106 = .ok (.aload_n 0, 1) := by decide +kernel
theorem dX7_isBrokenBy_107 : decode cX7_isBrokenBy 107 = .ok (.getfield 62, 3) := by decide +kernel
theorem dX7_isBrokenBy_110 : decode cX7_isBrokenBy 110 = .ok (.iload 6, 2) := by decide +kernel
theorem dX7_isBrokenBy_112 : decode cX7_isBrokenBy 112 = .ok (.invokevirtual 153, 3) := by decide +kernel
theorem dX7_isBrokenBy_115 : decode cX7_isBrokenBy 115 = .ok (.aload_n 0, 1) := by decide +kernel
theorem dX7_isBrokenBy_116 : decode cX7_isBrokenBy 116 = .ok (.getfield 58, 3) := by decide +kernel
theorem dX7_isBrokenBy_119 : decode cX7_isBrokenBy 119 = .ok (.aload_n 0, 1) := by decide +kernel
theorem dX7_isBrokenBy_120 : decode cX7_isBrokenBy 120 = .ok (.getfield 62, 3) := by decide +kernel
theorem dX7_isBrokenBy_123 : decode cX7_isBrokenBy 123 = .ok (.invokevirtual 160, 3) := by decide +kernel
theorem dX7_isBrokenBy_126 : decode cX7_isBrokenBy 126 = .ok (.ifCond .ne 7, 3) := by decide +kernel
theorem dX7_isBrokenBy_129 : decode cX7_isBrokenBy 129 = .ok (.iconst 1, 1) := by decide +kernel
theorem dX7_isBrokenBy_130 : decode cX7_isBrokenBy 130 = .ok (.goto 4, 3) := by decide +kernel
theorem dX7_isBrokenBy_133 : decode cX7_isBrokenBy 133 = .ok (.iconst 0, 1) := by decide +kernel
theorem dX7_isBrokenBy_134 : decode cX7_isBrokenBy 134 = .ok (.ireturn, 1) := by decide +kernel
theorem dX7_firstUnit_0 : decode cX7_firstUnit 0 = .ok (.iload_n 0, 1) := by decide +kernel
theorem dX7_firstUnit_1 : decode cX7_firstUnit 1 = .ok (.bipush 100, 2) := by decide +kernel
theorem dX7_firstUnit_3 : decode cX7_firstUnit 3 = .ok (.if_icmp .lt 6, 3) := by decide +kernel
theorem dX7_firstUnit_6 : decode cX7_firstUnit 6 = .ok (.bipush 100, 2) := by decide +kernel
theorem dX7_firstUnit_8 : decode cX7_firstUnit 8 = .ok (.ireturn, 1) := by decide +kernel
theorem dX7_firstUnit_9 : decode cX7_firstUnit 9 = .ok (.iload_n 0, 1) := by decide +kernel
theorem dX7_firstUnit_10 : decode cX7_firstUnit 10 = .ok (.bipush 10, 2) := by decide +kernel
theorem dX7_firstUnit_12 : decode cX7_firstUnit 12 = .ok (.if_icmp .lt 8, 3) := by decide +kernel
theorem dX7_firstUnit_15 : decode cX7_firstUnit 15 = .ok (.bipush 10, 2) := by decide +kernel
theorem dX7_firstUnit_17 : decode cX7_firstUnit 17 = .ok (.goto 4, 3) := by decide +kernel
theorem dX7_firstUnit_20 : decode cX7_firstUnit 20 = .ok (.iconst 1, 1) := by decide +kernel
theorem dX7_firstUnit_21 : decode cX7_firstUnit 21 = .ok (.ireturn, 1) := by decide +kernel
set_option maxRecDepth 20000 in
theorem ggX7_mightFrom_X7_rowInOrder : GoodIn wsX7_mightFrom wsX7_rowInOrder := goodIn_r _ [6] (by decide +kernel) (by decide +kernel)
set_option maxRecDepth 20000 in
theorem gX7_mightFrom_X7_rowInOrder : GoodIn wsX7_mightFrom (va_wsS RX7 129 yX7_rowInOrder wsX7_rowInOrder) := goodIn_app (goodIn_of _ (by decide +kernel)) ggX7_mightFrom_X7_rowInOrder
set_option maxRecDepth 20000 in
theorem ggX7_mightFrom_X6_setClaim : GoodIn wsX7_mightFrom wsX6_setClaim := goodIn_r _ [11, 12, 13, 5, 14, 95, 96] (by decide +kernel) (by decide +kernel)
set_option maxRecDepth 20000 in
theorem gX7_mightFrom_X6_setClaim : GoodIn wsX7_mightFrom (wsV RX7 145 RX6 yX6_setClaim wsX6_setClaim) := goodIn_app (goodIn_of _ (by decide +kernel)) ggX7_mightFrom_X6_setClaim
set_option maxRecDepth 20000 in
theorem ggX7_mightFrom_X1_find : GoodIn wsX7_mightFrom wsX1_find := goodIn_r _ [19, 20, 21, 22, 23, 10, 24, 12, 13, 5, 14, 25, 26, 27, 28, 29, 30, 31, 32, 33, 34, 35, 36, 37, 38, 18, 39, 40, 41, 42, 43, 44, 45, 46, 47, 97, 95, 96, 98, 99] (by decide +kernel) (by decide +kernel)
set_option maxRecDepth 20000 in
theorem gX7_mightFrom_X1_find : GoodIn wsX7_mightFrom (wsV RX7 149 RX1 yX1_find wsX1_find) := goodIn_app (goodIn_of _ (by decide +kernel)) ggX7_mightFrom_X1_find
set_option maxRecDepth 20000 in
theorem ggX7_mightFrom_X7_breakingLetter : GoodIn wsX7_mightFrom wsX7_breakingLetter := goodIn_r _ [51, 1, 52, 22, 23, 10, 24, 12, 13, 5, 14, 53, 54, 55, 56, 57, 2, 58, 59, 60, 61, 62, 63, 64, 65, 66, 67, 68, 69, 26, 27, 28, 29, 30, 70, 37, 38, 18, 39, 20, 40, 41, 42, 43, 35, 44, 45, 46, 47, 71, 72, 73, 74, 75, 76, 77, 78, 79, 80, 81, 82, 83, 84, 85, 86, 87, 88, 89, 90, 91, 92, 93, 94, 95, 96, 98, 99, 97] (by decide +kernel) (by decide +kernel)
set_option maxRecDepth 20000 in
theorem gX7_mightFrom_X7_breakingLetter : GoodIn wsX7_mightFrom (wsV RX7 171 RX7 yX7_breakingLetter wsX7_breakingLetter) := goodIn_app (goodIn_of _ (by decide +kernel)) ggX7_mightFrom_X7_breakingLetter
theorem dX7_mightFrom_0 : decode cX7_mightFrom 0 = .ok (.iconst 0, 1) := by decide +kernel
theorem dX7_mightFrom_1 : decode cX7_mightFrom 1 = .ok (.istore_n 3, 1) := by decide +kernel
theorem dX7_mightFrom_2 : decode cX7_mightFrom 2 = .ok (.iload_n 1, 1) := by decide +kernel
theorem dX7_mightFrom_3 : decode cX7_mightFrom 3 = .ok (.iload_n 1, 1) := by decide +kernel
theorem dX7_mightFrom_4 : decode cX7_mightFrom 4 = .ok (.iload_n 1, 1) := by decide +kernel
theorem dX7_mightFrom_5 : decode cX7_mightFrom 5 = .ok (.imul, 1) := by decide +kernel
theorem dX7_mightFrom_6 : decode cX7_mightFrom 6 = .ok (.iadd, 1) := by decide +kernel
theorem dX7_mightFrom_7 : decode cX7_mightFrom 7 = .ok (.iload_n 1, 1) := by decide +kernel
theorem dX7_mightFrom_8 : decode cX7_mightFrom 8 = .ok (.iload_n 1, 1) := by decide +kernel
theorem dX7_mightFrom_9 : decode cX7_mightFrom 9 = .ok (.imul, 1) := by decide +kernel
theorem dX7_mightFrom_10 : decode cX7_mightFrom 10 = .ok (.iload_n 1, 1) := by decide +kernel
theorem dX7_mightFrom_11 : decode cX7_mightFrom 11 = .ok (.imul, 1) := by decide +kernel
theorem dX7_mightFrom_12 : decode cX7_mightFrom 12 = .ok (.iadd, 1) := by decide +kernel
theorem dX7_mightFrom_13 : decode cX7_mightFrom 13 = .ok (.istore 4, 2) := by decide +kernel
theorem dX7_mightFrom_15 : decode cX7_mightFrom 15 = .ok (.iconst 1, 1) := by decide +kernel
theorem dX7_mightFrom_16 : decode cX7_mightFrom 16 = .ok (.istore 5, 2) := by decide +kernel
theorem dX7_mightFrom_18 : decode cX7_mightFrom 18 = .ok (.iload 5, 2) := by decide +kernel
theorem dX7_mightFrom_20 : decode cX7_mightFrom 20 = .ok (.iload 4, 2) := by decide +kernel
theorem dX7_mightFrom_22 : decode cX7_mightFrom 22 = .ok (.if_icmp .gt 59, 3) := by decide +kernel
theorem dX7_mightFrom_25 : decode cX7_mightFrom 25 = .ok (.iload 5, 2) := by decide +kernel
theorem dX7_mightFrom_27 : decode cX7_mightFrom 27 = .ok (.iload_n 1, 1) := by decide +kernel
theorem dX7_mightFrom_28 : decode cX7_mightFrom 28 = .ok (.invokestatic 129, 3) := by decide +kernel
theorem dX7_mightFrom_31 : decode cX7_mightFrom 31 = .ok (.istore 6, 2) := by decide +kernel
theorem dX7_mightFrom_33 : decode cX7_mightFrom 33 = .ok (.aload_n 0, 1) := by decide +kernel
theorem dX7_mightFrom_34 : decode cX7_mightFrom 34 = .ok (.getfield 12, 3) := by decide +kernel
theorem dX7_mightFrom_37 : decode cX7_mightFrom 37 = .ok (.iload_n 1, 1) := by decide +kernel
theorem dX7_mightFrom_38 : decode cX7_mightFrom 38 = .ok (.iload 6, 2) := by decide +kernel
theorem dX7_mightFrom_40 : decode cX7_mightFrom 40 = .ok (.invokevirtual 145, 3) := by decide +kernel
theorem dX7_mightFrom_43 : decode cX7_mightFrom 43 = .ok (.aload_n 0, 1) := by decide +kernel
theorem dX7_mightFrom_44 : decode cX7_mightFrom 44 = .ok (.getfield 49, 3) := by decide +kernel
theorem dX7_mightFrom_47 : decode cX7_mightFrom 47 = .ok (.aload_n 0, 1) := by decide +kernel
theorem dX7_mightFrom_48 : decode cX7_mightFrom 48 = .ok (.getfield 12, 3) := by decide +kernel
theorem dX7_mightFrom_51 : decode cX7_mightFrom 51 = .ok (.invokevirtual 149, 3) := by decide +kernel
theorem dX7_mightFrom_54 : decode cX7_mightFrom 54 = .ok (.aload_n 0, 1) := by decide +kernel
theorem dX7_mightFrom_55 : decode cX7_mightFrom 55 = .ok (.iload_n 1, 1) := by decide +kernel
theorem dX7_mightFrom_56 : decode cX7_mightFrom 56 = .ok (.invokevirtual 171, 3) := by decide +kernel
theorem dX7_mightFrom_59 : decode cX7_mightFrom 59 = .ok (.bipush (-9), 2) := by decide +kernel
theorem dX7_mightFrom_61 : decode cX7_mightFrom 61 = .ok (.if_icmp .ne 14, 3) := by decide +kernel
theorem dX7_mightFrom_64 : decode cX7_mightFrom 64 = .ok (.iload_n 3, 1) := by decide +kernel
theorem dX7_mightFrom_65 : decode cX7_mightFrom 65 = .ok (.iload_n 2, 1) := by decide +kernel
theorem dX7_mightFrom_66 : decode cX7_mightFrom 66 = .ok (.if_icmp .ne 6, 3) := by decide +kernel
theorem dX7_mightFrom_69 : decode cX7_mightFrom 69 = .ok (.iload 6, 2) := by decide +kernel
theorem dX7_mightFrom_71 : decode cX7_mightFrom 71 = .ok (.ireturn, 1) := by decide +kernel
theorem dX7_mightFrom_72 : decode cX7_mightFrom 72 = .ok (.iinc 3 1, 3) := by decide +kernel
theorem dX7_mightFrom_75 : decode cX7_mightFrom 75 = .ok (.iinc 5 1, 3) := by decide +kernel
theorem dX7_mightFrom_78 : decode cX7_mightFrom 78 = .ok (.goto (-60), 3) := by decide +kernel
theorem dX7_mightFrom_81 : decode cX7_mightFrom 81 = .ok (.iload_n 2, 1) := by decide +kernel
theorem dX7_mightFrom_82 : decode cX7_mightFrom 82 = .ok (.iconst (-1), 1) := by decide +kernel
theorem dX7_mightFrom_83 : decode cX7_mightFrom 83 = .ok (.if_icmp .ne 7, 3) := by decide +kernel
theorem dX7_mightFrom_86 : decode cX7_mightFrom 86 = .ok (.iload_n 3, 1) := by decide +kernel
theorem dX7_mightFrom_87 : decode cX7_mightFrom 87 = .ok (.goto 5, 3) := by decide +kernel
theorem dX7_mightFrom_90 : decode cX7_mightFrom 90 = .ok (.bipush (-9), 2) := by decide +kernel
theorem dX7_mightFrom_92 : decode cX7_mightFrom 92 = .ok (.ireturn, 1) := by decide +kernel
theorem dX8_init_0 : decode cX8_init 0 = .ok (.aload_n 0, 1) := by decide +kernel
theorem dX8_init_1 : decode cX8_init 1 = .ok (.invokespecial 1, 3) := by decide +kernel
theorem dX8_init_4 : decode cX8_init 4 = .ok (.aload_n 0, 1) := by decide +kernel
theorem dX8_init_5 : decode cX8_init 5 = .ok (.bipush 24, 2) := by decide +kernel
theorem dX8_init_7 : decode cX8_init 7 = .ok (.newarray .int, 2) := by decide +kernel
theorem dX8_init_9 : decode cX8_init 9 = .ok (.putfield 7, 3) := by decide +kernel
theorem dX8_init_12 : decode cX8_init 12 = .ok (.aload_n 0, 1) := by decide +kernel
theorem dX8_init_13 : decode cX8_init 13 = .ok (.sipush 480, 3) := by decide +kernel
theorem dX8_init_16 : decode cX8_init 16 = .ok (.newarray .int, 2) := by decide +kernel
theorem dX8_init_18 : decode cX8_init 18 = .ok (.putfield 13, 3) := by decide +kernel
theorem dX8_init_21 : decode cX8_init 21 = .ok (.aload_n 0, 1) := by decide +kernel
theorem dX8_init_22 : decode cX8_init 22 = .ok (.bipush 64, 2) := by decide +kernel
theorem dX8_init_24 : decode cX8_init 24 = .ok (.newarray .int, 2) := by decide +kernel
theorem dX8_init_26 : decode cX8_init 26 = .ok (.putfield 16, 3) := by decide +kernel
theorem dX8_init_29 : decode cX8_init 29 = .ok (.aload_n 0, 1) := by decide +kernel
theorem dX8_init_30 : decode cX8_init 30 = .ok (.bipush 6, 2) := by decide +kernel
theorem dX8_init_32 : decode cX8_init 32 = .ok (.newarray .int, 2) := by decide +kernel
theorem dX8_init_34 : decode cX8_init 34 = .ok (.putfield 19, 3) := by decide +kernel
theorem dX8_init_37 : decode cX8_init 37 = .ok (.aload_n 0, 1) := by decide +kernel
theorem dX8_init_38 : decode cX8_init 38 = .ok (.bipush 78, 2) := by decide +kernel
theorem dX8_init_40 : decode cX8_init 40 = .ok (.newarray .int, 2) := by decide +kernel
theorem dX8_init_42 : decode cX8_init 42 = .ok (.putfield 22, 3) := by decide +kernel
theorem dX8_init_45 : decode cX8_init 45 = .ok (.aload_n 0, 1) := by decide +kernel
theorem dX8_init_46 : decode cX8_init 46 = .ok (.bipush 13, 2) := by decide +kernel
theorem dX8_init_48 : decode cX8_init 48 = .ok (.newarray .int, 2) := by decide +kernel
theorem dX8_init_50 : decode cX8_init 50 = .ok (.putfield 25, 3) := by decide +kernel
theorem dX8_init_53 : decode cX8_init 53 = .ok (.aload_n 0, 1) := by decide +kernel
theorem dX8_init_54 : decode cX8_init 54 = .ok (.bipush 13, 2) := by decide +kernel
theorem dX8_init_56 : decode cX8_init 56 = .ok (.newarray .int, 2) := by decide +kernel
theorem dX8_init_58 : decode cX8_init 58 = .ok (.putfield 28, 3) := by decide +kernel
theorem dX8_init_61 : decode cX8_init 61 = .ok (.aload_n 0, 1) := by decide +kernel
theorem dX8_init_62 : decode cX8_init 62 = .ok (.sipush 2400, 3) := by decide +kernel
theorem dX8_init_65 : decode cX8_init 65 = .ok (.newarray .int, 2) := by decide +kernel
theorem dX8_init_67 : decode cX8_init 67 = .ok (.putfield 31, 3) := by decide +kernel
theorem dX8_init_70 : decode cX8_init 70 = .ok (.aload_n 0, 1) := by decide +kernel
theorem dX8_init_71 : decode cX8_init 71 = .ok (.sipush 2400, 3) := by decide +kernel
theorem dX8_init_74 : decode cX8_init 74 = .ok (.newarray .int, 2) := by decide +kernel
theorem dX8_init_76 : decode cX8_init 76 = .ok (.putfield 34, 3) := by decide +kernel
theorem dX8_init_79 : decode cX8_init 79 = .ok (.aload_n 0, 1) := by decide +kernel
theorem dX8_init_80 : decode cX8_init 80 = .ok (.sipush 2400, 3) := by decide +kernel
theorem dX8_init_83 : decode cX8_init 83 = .ok (.newarray .int, 2) := by decide +kernel
theorem dX8_init_85 : decode cX8_init 85 = .ok (.putfield 37, 3) := by decide +kernel
theorem dX8_init_88 : decode cX8_init 88 = .ok (.iconst 0, 1) := by decide +kernel
theorem dX8_init_89 : decode cX8_init 89 = .ok (.istore_n 1, 1) := by decide +kernel
theorem dX8_init_90 : decode cX8_init 90 = .ok (.iload_n 1, 1) := by decide +kernel
theorem dX8_init_91 : decode cX8_init 91 = .ok (.bipush 24, 2) := by decide +kernel
theorem dX8_init_93 : decode cX8_init 93 = .ok (.if_icmp .ge 17, 3) := by decide +kernel
theorem dX8_init_96 : decode cX8_init 96 = .ok (.aload_n 0, 1) := by decide +kernel
theorem dX8_init_97 : decode cX8_init 97 = .ok (.getfield 7, 3) := by decide +kernel
theorem dX8_init_100 : decode cX8_init 100 = .ok (.iload_n 1, 1) := by decide +kernel
theorem dX8_init_101 : decode cX8_init 101 = .ok (.bipush (-9), 2) := by decide +kernel
theorem dX8_init_103 : decode cX8_init 103 = .ok (.iastore, 1) := by decide +kernel
theorem dX8_init_104 : decode cX8_init 104 = .ok (.iinc 1 1, 3) := by decide +kernel
theorem dX8_init_107 : decode cX8_init 107 = .ok (.goto (-17), 3) := by decide +kernel
theorem dX8_init_110 : decode cX8_init 110 = .ok (.return_, 1) := by decide +kernel
theorem dX8_within_0 : decode cX8_within 0 = .ok (.iload_n 0, 1) := by decide +kernel
theorem dX8_within_1 : decode cX8_within 1 = .ok (.iload_n 1, 1) := by decide +kernel
theorem dX8_within_2 : decode cX8_within 2 = .ok (.if_icmp .lt 12, 3) := by decide +kernel
theorem dX8_within_5 : decode cX8_within 5 = .ok (.iload_n 0, 1) := by decide +kernel
theorem dX8_within_6 : decode cX8_within 6 = .ok (.iload_n 2, 1) := by decide +kernel
theorem dX8_within_7 : decode cX8_within 7 = .ok (.if_icmp .gt 7, 3) := by decide +kernel
theorem dX8_within_10 : decode cX8_within 10 = .ok (.iconst 1, 1) := by decide +kernel
theorem dX8_within_11 : decode cX8_within 11 = .ok (.goto 4, 3) := by decide +kernel
theorem dX8_within_14 : decode cX8_within 14 = .ok (.iconst 0, 1) := by decide +kernel
theorem dX8_within_15 : decode cX8_within 15 = .ok (.ireturn, 1) := by decide +kernel
theorem dX8_has_0 : decode cX8_has 0 = .ok (.iload_n 0, 1) := by decide +kernel
theorem dX8_has_1 : decode cX8_has 1 = .ok (.iload_n 1, 1) := by decide +kernel
theorem dX8_has_2 : decode cX8_has 2 = .ok (.ishr, 1) := by decide +kernel
theorem dX8_has_3 : decode cX8_has 3 = .ok (.iconst 1, 1) := by decide +kernel
theorem dX8_has_4 : decode cX8_has 4 = .ok (.iand, 1) := by decide +kernel
theorem dX8_has_5 : decode cX8_has 5 = .ok (.iconst 1, 1) := by decide +kernel
theorem dX8_has_6 : decode cX8_has 6 = .ok (.if_icmp .ne 7, 3) := by decide +kernel
theorem dX8_has_9 : decode cX8_has 9 = .ok (.iconst 1, 1) := by decide +kernel
theorem dX8_has_10 : decode cX8_has 10 = .ok (.goto 4, 3) := by decide +kernel
theorem dX8_has_13 : decode cX8_has 13 = .ok (.iconst 0, 1) := by decide +kernel
theorem dX8_has_14 : decode cX8_has 14 = .ok (.ireturn, 1) := by decide +kernel
set_option maxRecDepth 20000 in
theorem ggX8_isSign_X8_within : GoodIn wsX8_isSign wsX8_within := goodIn_r _ [4] (by decide +kernel) (by decide +kernel)
set_option maxRecDepth 20000 in
theorem gX8_isSign_X8_within : GoodIn wsX8_isSign (va_wsS RX8 40 yX8_within wsX8_within) := goodIn_app (goodIn_of _ (by decide +kernel)) ggX8_isSign_X8_within
theorem dX8_isSign_0 : decode cX8_isSign 0 = .ok (.iload_n 0, 1) := by decide +kernel
theorem dX8_isSign_1 : decode cX8_isSign 1 = .ok (.iconst 0, 1) := by decide +kernel
theorem dX8_isSign_2 : decode cX8_isSign 2 = .ok (.iconst 5, 1) := by decide +kernel
theorem dX8_isSign_3 : decode cX8_isSign 3 = .ok (.invokestatic 40, 3) := by decide +kernel
theorem dX8_isSign_6 : decode cX8_isSign 6 = .ok (.ireturn, 1) := by decide +kernel
set_option maxRecDepth 20000 in
theorem ggX8_isLetter_X8_within : GoodIn wsX8_isLetter wsX8_within := goodIn_r _ [4] (by decide +kernel) (by decide +kernel)
set_option maxRecDepth 20000 in
theorem gX8_isLetter_X8_within : GoodIn wsX8_isLetter (va_wsS RX8 40 yX8_within wsX8_within) := goodIn_app (goodIn_of _ (by decide +kernel)) ggX8_isLetter_X8_within
theorem dX8_isLetter_0 : decode cX8_isLetter 0 = .ok (.iload_n 0, 1) := by decide +kernel
theorem dX8_isLetter_1 : decode cX8_isLetter 1 = .ok (.iconst 0, 1) := by decide +kernel
theorem dX8_isLetter_2 : decode cX8_isLetter 2 = .ok (.iconst 2, 1) := by decide +kernel
theorem dX8_isLetter_3 : decode cX8_isLetter 3 = .ok (.invokestatic 40, 3) := by decide +kernel
theorem dX8_isLetter_6 : decode cX8_isLetter 6 = .ok (.ireturn, 1) := by decide +kernel
theorem dX8_ruleOf_0 : decode cX8_ruleOf 0 = .ok (.aload_n 0, 1) := by decide +kernel
theorem dX8_ruleOf_1 : decode cX8_ruleOf 1 = .ok (.getfield 7, 3) := by decide +kernel
theorem dX8_ruleOf_4 : decode cX8_ruleOf 4 = .ok (.iconst 3, 1) := by decide +kernel
theorem dX8_ruleOf_5 : decode cX8_ruleOf 5 = .ok (.iload_n 1, 1) := by decide +kernel
theorem dX8_ruleOf_6 : decode cX8_ruleOf 6 = .ok (.imul, 1) := by decide +kernel
theorem dX8_ruleOf_7 : decode cX8_ruleOf 7 = .ok (.iload_n 2, 1) := by decide +kernel
theorem dX8_ruleOf_8 : decode cX8_ruleOf 8 = .ok (.iadd, 1) := by decide +kernel
theorem dX8_ruleOf_9 : decode cX8_ruleOf 9 = .ok (.iaload, 1) := by decide +kernel
theorem dX8_ruleOf_10 : decode cX8_ruleOf 10 = .ok (.ireturn, 1) := by decide +kernel
theorem dX8_claimOf_0 : decode cX8_claimOf 0 = .ok (.aload_n 0, 1) := by decide +kernel
theorem dX8_claimOf_1 : decode cX8_claimOf 1 = .ok (.getfield 7, 3) := by decide +kernel
theorem dX8_claimOf_4 : decode cX8_claimOf 4 = .ok (.bipush 18, 2) := by decide +kernel
theorem dX8_claimOf_6 : decode cX8_claimOf 6 = .ok (.iload_n 1, 1) := by decide +kernel
theorem dX8_claimOf_7 : decode cX8_claimOf 7 = .ok (.iadd, 1) := by decide +kernel
theorem dX8_claimOf_8 : decode cX8_claimOf 8 = .ok (.iaload, 1) := by decide +kernel
theorem dX8_claimOf_9 : decode cX8_claimOf 9 = .ok (.ireturn, 1) := by decide +kernel
set_option maxRecDepth 20000 in
theorem ggX8_digits_X8_within : GoodIn wsX8_digits wsX8_within := goodIn_r _ [5] (by decide +kernel) (by decide +kernel)
set_option maxRecDepth 20000 in
theorem gX8_digits_X8_within : GoodIn wsX8_digits (va_wsS RX8 40 yX8_within wsX8_within) := goodIn_app (goodIn_of _ (by decide +kernel)) ggX8_digits_X8_within
theorem dX8_digits_0 : decode cX8_digits 0 = .ok (.iconst 0, 1) := by decide +kernel
theorem dX8_digits_1 : decode cX8_digits 1 = .ok (.istore_n 3, 1) := by decide +kernel
theorem dX8_digits_2 : decode cX8_digits 2 = .ok (.lload_n 0, 1) := by decide +kernel
theorem dX8_digits_3 : decode cX8_digits 3 = .ok (.lstore 4, 2) := by decide +kernel
theorem dX8_digits_5 : decode cX8_digits 5 = .ok (.lload 4, 2) := by decide +kernel
theorem dX8_digits_7 : decode cX8_digits 7 = .ok (.lconst 0, 1) := by decide +kernel
theorem dX8_digits_8 : decode cX8_digits 8 = .ok (.lcmp, 1) := by decide +kernel
theorem dX8_digits_9 : decode cX8_digits 9 = .ok (.ifCond .le 35, 3) := by decide +kernel
theorem dX8_digits_12 : decode cX8_digits 12 = .ok (.lload 4, 2) := by decide +kernel
theorem dX8_digits_14 : decode cX8_digits 14 = .ok (.ldc2_w 44, 3) := by decide +kernel
theorem dX8_digits_17 : decode cX8_digits 17 = .ok (.lrem, 1) := by decide +kernel
theorem dX8_digits_18 : decode cX8_digits 18 = .ok (.l2i, 1) := by decide +kernel
theorem dX8_digits_19 : decode cX8_digits 19 = .ok (.iconst 1, 1) := by decide +kernel
theorem dX8_digits_20 : decode cX8_digits 20 = .ok (.iload_n 2, 1) := by decide +kernel
theorem dX8_digits_21 : decode cX8_digits 21 = .ok (.invokestatic 40, 3) := by decide +kernel
theorem dX8_digits_24 : decode cX8_digits 24 = .ok (.ifCond .ne 6, 3) := by decide +kernel
theorem dX8_digits_27 : decode cX8_digits 27 = .ok (.bipush (-9), 2) := by decide +kernel
theorem dX8_digits_29 : decode cX8_digits 29 = .ok (.ireturn, 1) := by decide +kernel
theorem dX8_digits_30 : decode cX8_digits 30 = .ok (.iinc 3 1, 3) := by decide +kernel
theorem dX8_digits_33 : decode cX8_digits 33 = .ok (.lload 4, 2) := by decide +kernel
theorem dX8_digits_35 : decode cX8_digits 35 = .ok (.ldc2_w 44, 3) := by decide +kernel
theorem dX8_digits_38 : decode cX8_digits 38 = .ok (.ldiv, 1) := by decide +kernel
theorem dX8_digits_39 : decode cX8_digits 39 = .ok (.lstore 4, 2) := by decide +kernel
theorem dX8_digits_41 : decode cX8_digits 41 = .ok (.goto (-36), 3) := by decide +kernel
theorem dX8_digits_44 : decode cX8_digits 44 = .ok (.lload_n 0, 1) := by decide +kernel
theorem dX8_digits_45 : decode cX8_digits 45 = .ok (.lconst 0, 1) := by decide +kernel
theorem dX8_digits_46 : decode cX8_digits 46 = .ok (.lcmp, 1) := by decide +kernel
theorem dX8_digits_47 : decode cX8_digits 47 = .ok (.ifCond .ge 8, 3) := by decide +kernel
theorem dX8_digits_50 : decode cX8_digits 50 = .ok (.bipush (-9), 2) := by decide +kernel
theorem dX8_digits_52 : decode cX8_digits 52 = .ok (.goto 4, 3) := by decide +kernel
theorem dX8_digits_55 : decode cX8_digits 55 = .ok (.iload_n 3, 1) := by decide +kernel
theorem dX8_digits_56 : decode cX8_digits 56 = .ok (.ireturn, 1) := by decide +kernel
set_option maxRecDepth 20000 in
theorem ggX8_isRow_X8_digits : GoodIn wsX8_isRow wsX8_digits := goodIn_r _ [4, 5, 6, 7, 3, 8] (by decide +kernel) (by decide +kernel)
set_option maxRecDepth 20000 in
theorem gX8_isRow_X8_digits : GoodIn wsX8_isRow (va_wsS RX8 46 yX8_digits wsX8_digits) := goodIn_app (goodIn_of _ (by decide +kernel)) ggX8_isRow_X8_digits
set_option maxRecDepth 20000 in
theorem ggX8_isRow_X8_within : GoodIn wsX8_isRow wsX8_within := goodIn_r _ [8] (by decide +kernel) (by decide +kernel)
set_option maxRecDepth 20000 in
theorem gX8_isRow_X8_within : GoodIn wsX8_isRow (va_wsS RX8 40 yX8_within wsX8_within) := goodIn_app (goodIn_of _ (by decide +kernel)) ggX8_isRow_X8_within
theorem dX8_isRow_0 : decode cX8_isRow 0 = .ok (.iload_n 0, 1) := by decide +kernel
theorem dX8_isRow_1 : decode cX8_isRow 1 = .ok (.i2l, 1) := by decide +kernel
theorem dX8_isRow_2 : decode cX8_isRow 2 = .ok (.bipush 6, 2) := by decide +kernel
theorem dX8_isRow_4 : decode cX8_isRow 4 = .ok (.invokestatic 46, 3) := by decide +kernel
theorem dX8_isRow_7 : decode cX8_isRow 7 = .ok (.iconst 0, 1) := by decide +kernel
theorem dX8_isRow_8 : decode cX8_isRow 8 = .ok (.iload_n 1, 1) := by decide +kernel
theorem dX8_isRow_9 : decode cX8_isRow 9 = .ok (.invokestatic 40, 3) := by decide +kernel
theorem dX8_isRow_12 : decode cX8_isRow 12 = .ok (.ireturn, 1) := by decide +kernel
theorem dX8_digitAt_0 : decode cX8_digitAt 0 = .ok (.lload_n 0, 1) := by decide +kernel
theorem dX8_digitAt_1 : decode cX8_digitAt 1 = .ok (.lstore 4, 2) := by decide +kernel
theorem dX8_digitAt_3 : decode cX8_digitAt 3 = .ok (.iload_n 2, 1) := by decide +kernel
theorem dX8_digitAt_4 : decode cX8_digitAt 4 = .ok (.iconst 1, 1) := by decide +kernel
theorem dX8_digitAt_5 : decode cX8_digitAt 5 = .ok (.isub, 1) := by decide +kernel
theorem dX8_digitAt_6 : decode cX8_digitAt 6 = .ok (.istore 6, 2) := by decide +kernel
theorem dX8_digitAt_8 : decode cX8_digitAt 8 = .ok (.iload 6, 2) := by decide +kernel
theorem dX8_digitAt_10 : decode cX8_digitAt 10 = .ok (.iload_n 3, 1) := by decide +kernel
theorem dX8_digitAt_11 : decode cX8_digitAt 11 = .ok (.if_icmp .le 17, 3) := by decide +kernel
theorem dX8_digitAt_14 : decode cX8_digitAt 14 = .ok (.lload 4, 2) := by decide +kernel
theorem dX8_digitAt_16 : decode cX8_digitAt 16 = .ok (.ldc2_w 44, 3) := by decide +kernel
theorem dX8_digitAt_19 : decode cX8_digitAt 19 = .ok (.ldiv, 1) := by decide +kernel
theorem dX8_digitAt_20 : decode cX8_digitAt 20 = .ok (.lstore 4, 2) := by decide +kernel
theorem dX8_digitAt_22 : decode cX8_digitAt 22 = .ok (.iinc 6 (-1), 3) := by decide +kernel
theorem dX8_digitAt_25 : decode cX8_digitAt 25 = .ok (.goto (-17), 3) := by decide +kernel
theorem dX8_digitAt_28 : decode cX8_digitAt 28 = .ok (.lload 4, 2) := by decide +kernel
theorem dX8_digitAt_30 : decode cX8_digitAt 30 = .ok (.ldc2_w 44, 3) := by decide +kernel
theorem dX8_digitAt_33 : decode cX8_digitAt 33 = .ok (.lrem, 1) := by decide +kernel
theorem dX8_digitAt_34 : decode cX8_digitAt 34 = .ok (.l2i, 1) := by decide +kernel
theorem dX8_digitAt_35 : decode cX8_digitAt 35 = .ok (.iconst 1, 1) := by decide +kernel
theorem dX8_digitAt_36 : decode cX8_digitAt 36 = .ok (.isub, 1) := by decide +kernel
theorem dX8_digitAt_37 : decode cX8_digitAt 37 = .ok (.ireturn, 1) := by decide +kernel
theorem dX8_keeps_0 : decode cX8_keeps 0 = .ok (.aload_n 0, 1) := by decide +kernel
theorem dX8_keeps_1 : decode cX8_keeps 1 = .ok (.getfield 50, 3) := by decide +kernel
theorem dX8_keeps_4 : decode cX8_keeps 4 = .ok (.bipush 20, 2) := by decide +kernel
theorem dX8_keeps_6 : decode cX8_keeps 6 = .ok (.if_icmp .ne 43, 3) := by decide +kernel
theorem dX8_keeps_9 : decode cX8_keeps 9 = .ok (.iconst 0, 1) := by decide +kernel
theorem dX8_keeps_10 : decode cX8_keeps 10 = .ok (.istore_n 1, 1) := by decide +kernel
theorem dX8_keeps_11 : decode cX8_keeps 11 = .ok (.iload_n 1, 1) := by decide +kernel
theorem dX8_keeps_12 : decode cX8_keeps 12 = .ok (.sipush 456, 3) := by decide +kernel
theorem dX8_keeps_15 : decode cX8_keeps 15 = .ok (.if_icmp .ge 24, 3) := by decide +kernel
theorem dX8_keeps_18 : decode cX8_keeps 18 = .ok (.aload_n 0, 1) := by decide +kernel
theorem dX8_keeps_19 : decode cX8_keeps 19 = .ok (.getfield 13, 3) := by decide +kernel
theorem dX8_keeps_22 : decode cX8_keeps 22 = .ok (.iload_n 1, 1) := by decide +kernel
theorem dX8_keeps_23 : decode cX8_keeps 23 = .ok (.aload_n 0, 1) := by decide +kernel
theorem dX8_keeps_24 : decode cX8_keeps 24 = .ok (.getfield 13, 3) := by decide +kernel
theorem dX8_keeps_27 : decode cX8_keeps 27 = .ok (.iload_n 1, 1) := by decide +kernel
theorem dX8_keeps_28 : decode cX8_keeps 28 = .ok (.bipush 24, 2) := by decide +kernel
theorem dX8_keeps_30 : decode cX8_keeps 30 = .ok (.iadd, 1) := by decide +kernel
theorem dX8_keeps_31 : decode cX8_keeps 31 = .ok (.iaload, 1) := by decide +kernel
theorem dX8_keeps_32 : decode cX8_keeps 32 = .ok (.iastore, 1) := by decide +kernel
theorem dX8_keeps_33 : decode cX8_keeps 33 = .ok (.iinc 1 1, 3) := by decide +kernel
theorem dX8_keeps_36 : decode cX8_keeps 36 = .ok (.goto (-25), 3) := by decide +kernel
theorem dX8_keeps_39 : decode cX8_keeps 39 = .ok (.aload_n 0, 1) := by decide +kernel
theorem dX8_keeps_40 : decode cX8_keeps 40 = .ok (.dup, 1) := by decide +kernel
theorem dX8_keeps_41 : decode cX8_keeps 41 = .ok (.getfield 50, 3) := by decide +kernel
theorem dX8_keeps_44 : decode cX8_keeps 44 = .ok (.iconst 1, 1) := by decide +kernel
theorem dX8_keeps_45 : decode cX8_keeps 45 = .ok (.isub, 1) := by decide +kernel
theorem dX8_keeps_46 : decode cX8_keeps 46 = .ok (.putfield 50, 3) := by decide +kernel
theorem dX8_keeps_49 : decode cX8_keeps 49 = .ok (.iconst 0, 1) := by decide +kernel
theorem dX8_keeps_50 : decode cX8_keeps 50 = .ok (.istore_n 1, 1) := by decide +kernel
theorem dX8_keeps_51 : decode cX8_keeps 51 = .ok (.iload_n 1, 1) := by decide +kernel
theorem dX8_keeps_52 : decode cX8_keeps 52 = .ok (.bipush 24, 2) := by decide +kernel
theorem dX8_keeps_54 : decode cX8_keeps 54 = .ok (.if_icmp .ge 29, 3) := by decide +kernel
theorem dX8_keeps_57 : decode cX8_keeps 57 = .ok (.aload_n 0, 1) := by decide +kernel
theorem dX8_keeps_58 : decode cX8_keeps 58 = .ok (.getfield 13, 3) := by decide +kernel
theorem dX8_keeps_61 : decode cX8_keeps 61 = .ok (.bipush 24, 2) := by decide +kernel
theorem dX8_keeps_63 : decode cX8_keeps 63 = .ok (.aload_n 0, 1) := by decide +kernel
theorem dX8_keeps_64 : decode cX8_keeps 64 = .ok (.getfield 50, 3) := by decide +kernel
theorem dX8_keeps_67 : decode cX8_keeps 67 = .ok (.imul, 1) := by decide +kernel
theorem dX8_keeps_68 : decode cX8_keeps 68 = .ok (.iload_n 1, 1) := by decide +kernel
theorem dX8_keeps_69 : decode cX8_keeps 69 = .ok (.iadd, 1) := by decide +kernel
theorem dX8_keeps_70 : decode cX8_keeps 70 = .ok (.aload_n 0, 1) := by decide +kernel
theorem dX8_keeps_71 : decode cX8_keeps 71 = .ok (.getfield 7, 3) := by decide +kernel
theorem dX8_keeps_74 : decode cX8_keeps 74 = .ok (.iload_n 1, 1) := by decide +kernel
theorem dX8_keeps_75 : decode cX8_keeps 75 = .ok (.iaload, 1) := by decide +kernel
theorem dX8_keeps_76 : decode cX8_keeps 76 = .ok (.iastore, 1) := by decide +kernel
theorem dX8_keeps_77 : decode cX8_keeps 77 = .ok (.iinc 1 1, 3) := by decide +kernel
theorem dX8_keeps_80 : decode cX8_keeps 80 = .ok (.goto (-29), 3) := by decide +kernel
theorem dX8_keeps_83 : decode cX8_keeps 83 = .ok (.aload_n 0, 1) := by decide +kernel
theorem dX8_keeps_84 : decode cX8_keeps 84 = .ok (.dup, 1) := by decide +kernel
theorem dX8_keeps_85 : decode cX8_keeps 85 = .ok (.getfield 50, 3) := by decide +kernel
theorem dX8_keeps_88 : decode cX8_keeps 88 = .ok (.iconst 1, 1) := by decide +kernel
theorem dX8_keeps_89 : decode cX8_keeps 89 = .ok (.iadd, 1) := by decide +kernel
theorem dX8_keeps_90 : decode cX8_keeps 90 = .ok (.putfield 50, 3) := by decide +kernel
theorem dX8_keeps_93 : decode cX8_keeps 93 = .ok (.return_, 1) := by decide +kernel
set_option maxRecDepth 20000 in
theorem ggX8_rule_X8_isSign : GoodIn wsX8_rule wsX8_isSign := goodIn_r _ [5, 6, 7, 4, 8] (by decide +kernel) (by decide +kernel)
set_option maxRecDepth 20000 in
theorem gX8_rule_X8_isSign : GoodIn wsX8_rule (va_wsS RX8 54 yX8_isSign wsX8_isSign) := goodIn_app (goodIn_of _ (by decide +kernel)) ggX8_rule_X8_isSign
set_option maxRecDepth 20000 in
theorem ggX8_rule_X8_isLetter : GoodIn wsX8_rule wsX8_isLetter := goodIn_r _ [11, 6, 7, 4, 8] (by decide +kernel) (by decide +kernel)
set_option maxRecDepth 20000 in
theorem gX8_rule_X8_isLetter : GoodIn wsX8_rule (va_wsS RX8 58 yX8_isLetter wsX8_isLetter) := goodIn_app (goodIn_of _ (by decide +kernel)) ggX8_rule_X8_isLetter
set_option maxRecDepth 20000 in
theorem ggX8_rule_X8_isRow : GoodIn wsX8_rule wsX8_isRow := goodIn_r _ [14, 15, 16, 4, 17, 18, 6, 7, 8] (by decide +kernel) (by decide +kernel)
set_option maxRecDepth 20000 in
theorem gX8_rule_X8_isRow : GoodIn wsX8_rule (va_wsS RX8 61 yX8_isRow wsX8_isRow) := goodIn_app (goodIn_of _ (by decide +kernel)) ggX8_rule_X8_isRow
set_option maxRecDepth 20000 in
theorem ggX8_rule_X8_keeps : GoodIn wsX8_rule wsX8_keeps := goodIn_r _ [22, 23, 24, 1, 29, 30, 31, 32, 33, 34, 35, 36, 37, 38, 39, 40, 41, 42] (by decide +kernel) (by decide +kernel)
set_option maxRecDepth 20000 in
theorem gX8_rule_X8_keeps : GoodIn wsX8_rule (wsV RX8 65 RX8 yX8_keeps wsX8_keeps) := goodIn_app (goodIn_of _ (by decide +kernel)) ggX8_rule_X8_keeps
set_option maxRecDepth 20000 in
theorem ggX8_rule_X8_ruleOf : GoodIn wsX8_rule wsX8_ruleOf := goodIn_r _ [28, 1, 29, 30, 31, 32, 33, 34, 35, 36, 37, 38, 39, 40, 41, 42] (by decide +kernel) (by decide +kernel)
set_option maxRecDepth 20000 in
theorem gX8_rule_X8_ruleOf : GoodIn wsX8_rule (wsV RX8 68 RX8 yX8_ruleOf wsX8_ruleOf) := goodIn_app (goodIn_of _ (by decide +kernel)) ggX8_rule_X8_ruleOf
theorem dX8_rule_0 : decode cX8_rule 0 = .ok (.iload_n 1, 1) := by decide +kernel
theorem dX8_rule_1 : decode cX8_rule 1 = .ok (.invokestatic 54, 3) := by decide +kernel
theorem dX8_rule_4 : decode cX8_rule 4 = .ok (.ifCond .eq 10, 3) := by decide +kernel
theorem dX8_rule_7 : decode cX8_rule 7 = .ok (.iload_n 2, 1) := by decide +kernel
theorem dX8_rule_8 : decode cX8_rule 8 = .ok (.invokestatic 58, 3) := by decide +kernel
theorem dX8_rule_11 : decode cX8_rule 11 = .ok (.ifCond .ne 5, 3) := by decide +kernel
theorem dX8_rule_14 : decode cX8_rule 14 = .ok (.iconst (-1), 1) := by decide +kernel
theorem dX8_rule_15 : decode cX8_rule 15 = .ok (.ireturn, 1) := by decide +kernel
theorem dX8_rule_16 : decode cX8_rule 16 = .ok (.iload_n 3, 1) := by decide +kernel
theorem dX8_rule_17 : decode cX8_rule 17 = .ok (.bipush (-9), 2) := by decide +kernel
theorem dX8_rule_19 : decode cX8_rule 19 = .ok (.if_icmp .eq 14, 3) := by decide +kernel
theorem dX8_rule_22 : decode cX8_rule 22 = .ok (.iload_n 3, 1) := by decide +kernel
theorem dX8_rule_23 : decode cX8_rule 23 = .ok (.iconst 3, 1) := by decide +kernel
theorem dX8_rule_24 : decode cX8_rule 24 = .ok (.invokestatic 61, 3) := by decide +kernel
theorem dX8_rule_27 : decode cX8_rule 27 = .ok (.ifCond .ne 6, 3) := by decide +kernel
theorem dX8_rule_30 : decode cX8_rule 30 = .ok (.bipush (-2), 2) := by decide +kernel
theorem dX8_rule_32 : decode cX8_rule 32 = .ok (.ireturn, 1) := by decide +kernel
theorem dX8_rule_33 : decode cX8_rule 33 = .ok (.aload_n 0, 1) := by decide +kernel
theorem dX8_rule_34 : decode cX8_rule 34 = .ok (.invokevirtual 65, 3) := by decide +kernel
theorem dX8_rule_37 : decode cX8_rule 37 = .ok (.aload_n 0, 1) := by decide +kernel
theorem dX8_rule_38 : decode cX8_rule 38 = .ok (.iload_n 1, 1) := by decide +kernel
theorem dX8_rule_39 : decode cX8_rule 39 = .ok (.iload_n 2, 1) := by decide +kernel
theorem dX8_rule_40 : decode cX8_rule 40 = .ok (.invokevirtual 68, 3) := by decide +kernel
theorem dX8_rule_43 : decode cX8_rule 43 = .ok (.istore 4, 2) := by decide +kernel
theorem dX8_rule_45 : decode cX8_rule 45 = .ok (.aload_n 0, 1) := by decide +kernel
theorem dX8_rule_46 : decode cX8_rule 46 = .ok (.getfield 7, 3) := by decide +kernel
theorem dX8_rule_49 : decode cX8_rule 49 = .ok (.iconst 3, 1) := by decide +kernel
theorem dX8_rule_50 : decode cX8_rule 50 = .ok (.iload_n 1, 1) := by decide +kernel
theorem dX8_rule_51 : decode cX8_rule 51 = .ok (.imul, 1) := by decide +kernel
theorem dX8_rule_52 : decode cX8_rule 52 = .ok (.iload_n 2, 1) := by decide +kernel
theorem dX8_rule_53 : decode cX8_rule 53 = .ok (.iadd, 1) := by decide +kernel
theorem dX8_rule_54 : decode cX8_rule 54 = .ok (.iload_n 3, 1) := by decide +kernel
theorem dX8_rule_55 : decode cX8_rule 55 = .ok (.iastore, 1) := by decide +kernel
theorem dX8_rule_56 : decode cX8_rule 56 = .ok (.iload 4, 2) := by decide +kernel
theorem dX8_rule_58 : decode cX8_rule 58 = .ok (.ireturn, 1) := by decide +kernel
set_option maxRecDepth 20000 in
theorem ggX8_ofRule_X8_isSign : GoodIn wsX8_ofRule wsX8_isSign := goodIn_r _ [4, 5, 6, 3, 7] (by decide +kernel) (by decide +kernel)
set_option maxRecDepth 20000 in
theorem gX8_ofRule_X8_isSign : GoodIn wsX8_ofRule (va_wsS RX8 54 yX8_isSign wsX8_isSign) := goodIn_app (goodIn_of _ (by decide +kernel)) ggX8_ofRule_X8_isSign
set_option maxRecDepth 20000 in
theorem ggX8_ofRule_X8_isLetter : GoodIn wsX8_ofRule wsX8_isLetter := goodIn_r _ [10, 5, 6, 3, 7] (by decide +kernel) (by decide +kernel)
set_option maxRecDepth 20000 in
theorem gX8_ofRule_X8_isLetter : GoodIn wsX8_ofRule (va_wsS RX8 58 yX8_isLetter wsX8_isLetter) := goodIn_app (goodIn_of _ (by decide +kernel)) ggX8_ofRule_X8_isLetter
set_option maxRecDepth 20000 in
theorem ggX8_ofRule_X8_ruleOf : GoodIn wsX8_ofRule wsX8_ruleOf := goodIn_r _ [14, 15, 16, 17, 18, 19, 20, 21, 22, 23, 24, 25, 26, 27, 28, 29] (by decide +kernel) (by decide +kernel)
set_option maxRecDepth 20000 in
theorem gX8_ofRule_X8_ruleOf : GoodIn wsX8_ofRule (wsV RX8 68 RX8 yX8_ruleOf wsX8_ruleOf) := goodIn_app (goodIn_of _ (by decide +kernel)) ggX8_ofRule_X8_ruleOf
theorem dX8_ofRule_0 : decode cX8_ofRule 0 = .ok (.iload_n 1, 1) := by decide +kernel
theorem dX8_ofRule_1 : decode cX8_ofRule 1 = .ok (.invokestatic 54, 3) := by decide +kernel
theorem dX8_ofRule_4 : decode cX8_ofRule 4 = .ok (.ifCond .eq 19, 3) := by decide +kernel
theorem dX8_ofRule_7 : decode cX8_ofRule 7 = .ok (.iload_n 2, 1) := by decide +kernel
theorem dX8_ofRule_8 : decode cX8_ofRule 8 = .ok (.invokestatic 58, 3) := by decide +kernel
theorem dX8_ofRule_11 : decode cX8_ofRule 11 = .ok (.ifCond .eq 12, 3) := by decide +kernel
theorem dX8_ofRule_14 : decode cX8_ofRule 14 = .ok (.aload_n 0, 1) := by decide +kernel
theorem dX8_ofRule_15 : decode cX8_ofRule 15 = .ok (.iload_n 1, 1) := by decide +kernel
theorem dX8_ofRule_16 : decode cX8_ofRule 16 = .ok (.iload_n 2, 1) := by decide +kernel
theorem dX8_ofRule_17 : decode cX8_ofRule 17 = .ok (.invokevirtual 68, 3) := by decide +kernel
theorem dX8_ofRule_20 : decode cX8_ofRule 20 = .ok (.goto 4, 3) := by decide +kernel
theorem dX8_ofRule_23 : decode cX8_ofRule 23 = .ok (.iconst (-1), 1) := by decide +kernel
theorem dX8_ofRule_24 : decode cX8_ofRule 24 = .ok (.ireturn, 1) := by decide +kernel
set_option maxRecDepth 20000 in
theorem ggX8_stacks_X8_digits : GoodIn wsX8_stacks wsX8_digits := goodIn_r _ [6, 7, 8, 9, 5, 10] (by decide +kernel) (by decide +kernel)
set_option maxRecDepth 20000 in
theorem gX8_stacks_X8_digits : GoodIn wsX8_stacks (va_wsS RX8 46 yX8_digits wsX8_digits) := goodIn_app (goodIn_of _ (by decide +kernel)) ggX8_stacks_X8_digits
set_option maxRecDepth 20000 in
theorem ggX8_stacks_X8_digitAt : GoodIn wsX8_stacks wsX8_digitAt := goodIn_r _ [13, 7] (by decide +kernel) (by decide +kernel)
set_option maxRecDepth 20000 in
theorem gX8_stacks_X8_digitAt : GoodIn wsX8_stacks (va_wsS RX8 75 yX8_digitAt wsX8_digitAt) := goodIn_app (goodIn_of _ (by decide +kernel)) ggX8_stacks_X8_digitAt
theorem dX8_stacks_0 : decode cX8_stacks 0 = .ok (.iload_n 1, 1) := by decide +kernel
theorem dX8_stacks_1 : decode cX8_stacks 1 = .ok (.i2l, 1) := by decide +kernel
theorem dX8_stacks_2 : decode cX8_stacks 2 = .ok (.bipush 6, 2) := by decide +kernel
theorem dX8_stacks_4 : decode cX8_stacks 4 = .ok (.invokestatic 46, 3) := by decide +kernel
theorem dX8_stacks_7 : decode cX8_stacks 7 = .ok (.istore_n 2, 1) := by decide +kernel
theorem dX8_stacks_8 : decode cX8_stacks 8 = .ok (.iload_n 2, 1) := by decide +kernel
theorem dX8_stacks_9 : decode cX8_stacks 9 = .ok (.iconst 1, 1) := by decide +kernel
theorem dX8_stacks_10 : decode cX8_stacks 10 = .ok (.isub, 1) := by decide +kernel
theorem dX8_stacks_11 : decode cX8_stacks 11 = .ok (.istore_n 3, 1) := by decide +kernel
theorem dX8_stacks_12 : decode cX8_stacks 12 = .ok (.iload_n 3, 1) := by decide +kernel
theorem dX8_stacks_13 : decode cX8_stacks 13 = .ok (.ifCond .lt 35, 3) := by decide +kernel
theorem dX8_stacks_16 : decode cX8_stacks 16 = .ok (.aload_n 0, 1) := by decide +kernel
theorem dX8_stacks_17 : decode cX8_stacks 17 = .ok (.getfield 16, 3) := by decide +kernel
theorem dX8_stacks_20 : decode cX8_stacks 20 = .ok (.aload_n 0, 1) := by decide +kernel
theorem dX8_stacks_21 : decode cX8_stacks 21 = .ok (.getfield 72, 3) := by decide +kernel
theorem dX8_stacks_24 : decode cX8_stacks 24 = .ok (.iload_n 1, 1) := by decide +kernel
theorem dX8_stacks_25 : decode cX8_stacks 25 = .ok (.i2l, 1) := by decide +kernel
theorem dX8_stacks_26 : decode cX8_stacks 26 = .ok (.iload_n 2, 1) := by decide +kernel
theorem dX8_stacks_27 : decode cX8_stacks 27 = .ok (.iload_n 3, 1) := by decide +kernel
theorem dX8_stacks_28 : decode cX8_stacks 28 = .ok (.invokestatic 75, 3) := by decide +kernel
theorem dX8_stacks_31 : decode cX8_stacks 31 = .ok (.iastore, 1) := by decide +kernel
theorem dX8_stacks_32 : decode cX8_stacks 32 = .ok (.aload_n 0, 1) := by decide +kernel
theorem dX8_stacks_33 : decode cX8_stacks 33 = .ok (.dup, 1) := by decide +kernel
theorem dX8_stacks_34 : decode cX8_stacks 34 = .ok (.getfield 72, 3) := by decide +kernel
theorem dX8_stacks_37 : decode cX8_stacks 37 = .ok (.iconst 1, 1) := by decide +kernel
theorem dX8_stacks_38 : decode cX8_stacks 38 = .ok (.iadd, 1) := by decide +kernel
theorem dX8_stacks_39 : decode cX8_stacks 39 = .ok (.putfield 72, 3) := by decide +kernel
theorem dX8_stacks_42 : decode cX8_stacks 42 = .ok (.iinc 3 (-1), 3) := by decide +kernel
theorem dX8_stacks_45 : decode cX8_stacks 45 = .ok (.goto (-33), 3) := by decide +kernel
theorem dX8_stacks_48 : decode cX8_stacks 48 = .ok (.return_, 1) := by decide +kernel
set_option maxRecDepth 20000 in
theorem ggX8_reads_X8_ruleOf : GoodIn wsX8_reads wsX8_ruleOf := goodIn_r _ [7, 8, 23, 24, 25, 26, 27, 28, 29, 30, 31, 32, 33, 34, 35, 36] (by decide +kernel) (by decide +kernel)
set_option maxRecDepth 20000 in
theorem gX8_reads_X8_ruleOf : GoodIn wsX8_reads (wsV RX8 68 RX8 yX8_ruleOf wsX8_ruleOf) := goodIn_app (goodIn_of _ (by decide +kernel)) ggX8_reads_X8_ruleOf
set_option maxRecDepth 20000 in
theorem ggX8_reads_X8_stacks : GoodIn wsX8_reads wsX8_stacks := goodIn_r _ [12, 2, 1, 13, 14, 6, 15, 16, 17, 18, 19, 20, 21, 22, 23, 24, 25, 26, 27, 28, 29, 30, 31, 32, 33, 34, 35, 36] (by decide +kernel) (by decide +kernel)
set_option maxRecDepth 20000 in
theorem gX8_reads_X8_stacks : GoodIn wsX8_reads (wsV RX8 79 RX8 yX8_stacks wsX8_stacks) := goodIn_app (goodIn_of _ (by decide +kernel)) ggX8_reads_X8_stacks
theorem dX8_reads_0 : decode cX8_reads 0 = .ok (.aload_n 0, 1) := by decide +kernel
theorem dX8_reads_1 : decode cX8_reads 1 = .ok (.getfield 72, 3) := by decide +kernel
theorem dX8_reads_4 : decode cX8_reads 4 = .ok (.ifCond .eq 24, 3) := by decide +kernel
theorem dX8_reads_7 : decode cX8_reads 7 = .ok (.aload_n 0, 1) := by decide +kernel
theorem dX8_reads_8 : decode cX8_reads 8 = .ok (.aload_n 0, 1) := by decide +kernel
theorem dX8_reads_9 : decode cX8_reads 9 = .ok (.getfield 16, 3) := by decide +kernel
theorem dX8_reads_12 : decode cX8_reads 12 = .ok (.aload_n 0, 1) := by decide +kernel
theorem dX8_reads_13 : decode cX8_reads 13 = .ok (.getfield 72, 3) := by decide +kernel
theorem dX8_reads_16 : decode cX8_reads 16 = .ok (.iconst 1, 1) := by decide +kernel
theorem dX8_reads_17 : decode cX8_reads 17 = .ok (.isub, 1) := by decide +kernel
theorem dX8_reads_18 : decode cX8_reads 18 = .ok (.iaload, 1) := by decide +kernel
theorem dX8_reads_19 : decode cX8_reads 19 = .ok (.iload_n 1, 1) := by decide +kernel
theorem dX8_reads_20 : decode cX8_reads 20 = .ok (.invokevirtual 68, 3) := by decide +kernel
theorem dX8_reads_23 : decode cX8_reads 23 = .ok (.bipush (-9), 2) := by decide +kernel
theorem dX8_reads_25 : decode cX8_reads 25 = .ok (.if_icmp .ne 5, 3) := by decide +kernel
theorem dX8_reads_28 : decode cX8_reads 28 = .ok (.iconst 0, 1) := by decide +kernel
theorem dX8_reads_29 : decode cX8_reads 29 = .ok (.ireturn, 1) := by decide +kernel
theorem dX8_reads_30 : decode cX8_reads 30 = .ok (.aload_n 0, 1) := by decide +kernel
theorem dX8_reads_31 : decode cX8_reads 31 = .ok (.dup, 1) := by decide +kernel
theorem dX8_reads_32 : decode cX8_reads 32 = .ok (.getfield 72, 3) := by decide +kernel
theorem dX8_reads_35 : decode cX8_reads 35 = .ok (.iconst 1, 1) := by decide +kernel
theorem dX8_reads_36 : decode cX8_reads 36 = .ok (.isub, 1) := by decide +kernel
theorem dX8_reads_37 : decode cX8_reads 37 = .ok (.putfield 72, 3) := by decide +kernel
theorem dX8_reads_40 : decode cX8_reads 40 = .ok (.aload_n 0, 1) := by decide +kernel
theorem dX8_reads_41 : decode cX8_reads 41 = .ok (.aload_n 0, 1) := by decide +kernel
theorem dX8_reads_42 : decode cX8_reads 42 = .ok (.aload_n 0, 1) := by decide +kernel
theorem dX8_reads_43 : decode cX8_reads 43 = .ok (.getfield 16, 3) := by decide +kernel
theorem dX8_reads_46 : decode cX8_reads 46 = .ok (.aload_n 0, 1) := by decide +kernel
theorem dX8_reads_47 : decode cX8_reads 47 = .ok (.getfield 72, 3) := by decide +kernel
theorem dX8_reads_50 : decode cX8_reads 50 = .ok (.iaload, 1) := by decide +kernel
theorem dX8_reads_51 : decode cX8_reads 51 = .ok (.iload_n 1, 1) := by decide +kernel
theorem dX8_reads_52 : decode cX8_reads 52 = .ok (.invokevirtual 68, 3) := by decide +kernel
theorem dX8_reads_55 : decode cX8_reads 55 = .ok (.invokevirtual 79, 3) := by decide +kernel
theorem dX8_reads_58 : decode cX8_reads 58 = .ok (.iconst 1, 1) := by decide +kernel
theorem dX8_reads_59 : decode cX8_reads 59 = .ok (.ireturn, 1) := by decide +kernel
set_option maxRecDepth 20000 in
theorem ggX8_readMany_X8_stacks : GoodIn wsX8_readMany wsX8_stacks := goodIn_r _ [6, 7, 1, 8, 9, 5, 10, 11, 12, 13, 14, 15, 16, 17, 27, 28, 29, 30, 31, 32, 33, 34, 35, 36, 37, 38, 39, 40] (by decide +kernel) (by decide +kernel)
set_option maxRecDepth 20000 in
theorem gX8_readMany_X8_stacks : GoodIn wsX8_readMany (wsV RX8 79 RX8 yX8_stacks wsX8_stacks) := goodIn_app (goodIn_of _ (by decide +kernel)) ggX8_readMany_X8_stacks
set_option maxRecDepth 20000 in
theorem ggX8_readMany_X8_digitAt : GoodIn wsX8_readMany wsX8_digitAt := goodIn_r _ [17, 11] (by decide +kernel) (by decide +kernel)
set_option maxRecDepth 20000 in
theorem gX8_readMany_X8_digitAt : GoodIn wsX8_readMany (va_wsS RX8 75 yX8_digitAt wsX8_digitAt) := goodIn_app (goodIn_of _ (by decide +kernel)) ggX8_readMany_X8_digitAt
set_option maxRecDepth 20000 in
theorem ggX8_readMany_X8_reads : GoodIn wsX8_readMany wsX8_reads := goodIn_r _ [21, 1, 7, 22, 23, 24, 5, 25, 26, 2, 3, 4, 6, 8, 9, 10, 11, 12, 13, 14, 15, 16, 17, 27, 28, 29, 30, 31, 32, 33, 34, 35, 36, 37, 38, 39, 40] (by decide +kernel) (by decide +kernel)
set_option maxRecDepth 20000 in
theorem gX8_readMany_X8_reads : GoodIn wsX8_readMany (wsV RX8 83 RX8 yX8_reads wsX8_reads) := goodIn_app (goodIn_of _ (by decide +kernel)) ggX8_readMany_X8_reads
theorem dX8_readMany_0 : decode cX8_readMany 0 = .ok (.aload_n 0, 1) := by decide +kernel
theorem dX8_readMany_1 : decode cX8_readMany 1 = .ok (.iconst 0, 1) := by decide +kernel
theorem dX8_readMany_2 : decode cX8_readMany 2 = .ok (.putfield 72, 3) := by decide +kernel
theorem dX8_readMany_5 : decode cX8_readMany 5 = .ok (.aload_n 0, 1) := by decide +kernel
theorem dX8_readMany_6 : decode cX8_readMany 6 = .ok (.iload_n 1, 1) := by decide +kernel
theorem dX8_readMany_7 : decode cX8_readMany 7 = .ok (.invokevirtual 79, 3) := by decide +kernel
theorem dX8_readMany_10 : decode cX8_readMany 10 = .ok (.iconst 0, 1) := by decide +kernel
theorem dX8_readMany_11 : decode cX8_readMany 11 = .ok (.istore 5, 2) := by decide +kernel
theorem dX8_readMany_13 : decode cX8_readMany 13 = .ok (.iload 5, 2) := by decide +kernel
theorem dX8_readMany_15 : decode cX8_readMany 15 = .ok (.iload 4, 2) := by decide +kernel
theorem dX8_readMany_17 : decode cX8_readMany 17 = .ok (.if_icmp .ge 24, 3) := by decide +kernel
theorem dX8_readMany_20 : decode cX8_readMany 20 = .ok (.aload_n 0, 1) := by decide +kernel
theorem dX8_readMany_21 : decode cX8_readMany 21 = .ok (.lload_n 2, 1) := by decide +kernel
theorem dX8_readMany_22 : decode cX8_readMany 22 = .ok (.iload 4, 2) := by decide +kernel
theorem dX8_readMany_24 : decode cX8_readMany 24 = .ok (.iload 5, 2) := by decide +kernel
theorem dX8_readMany_26 : decode cX8_readMany 26 = .ok (.invokestatic 75, 3) := by decide +kernel
theorem dX8_readMany_29 : decode cX8_readMany 29 = .ok (.invokevirtual 83, 3) := by decide +kernel
theorem dX8_readMany_32 : decode cX8_readMany 32 = .ok (.ifCond .eq 9, 3) := by decide +kernel
theorem dX8_readMany_35 : decode cX8_readMany 35 = .ok (.iinc 5 1, 3) := by decide +kernel
theorem dX8_readMany_38 : decode cX8_readMany 38 = .ok (.goto (-25), 3) := by decide +kernel
theorem dX8_readMany_41 : decode cX8_readMany 41 = .ok (.iload 5, 2) := by decide +kernel
theorem dX8_readMany_43 : decode cX8_readMany 43 = .ok (.ireturn, 1) := by decide +kernel
set_option maxRecDepth 20000 in
theorem ggX8_read_X8_digits : GoodIn wsX8_read wsX8_digits := goodIn_r _ [6, 7, 8, 9, 5, 10] (by decide +kernel) (by decide +kernel)
set_option maxRecDepth 20000 in
theorem gX8_read_X8_digits : GoodIn wsX8_read (va_wsS RX8 46 yX8_digits wsX8_digits) := goodIn_app (goodIn_of _ (by decide +kernel)) ggX8_read_X8_digits
set_option maxRecDepth 20000 in
theorem ggX8_read_X8_isRow : GoodIn wsX8_read wsX8_isRow := goodIn_r _ [13, 3, 4, 5, 6, 7, 8, 9, 10] (by decide +kernel) (by decide +kernel)
set_option maxRecDepth 20000 in
theorem gX8_read_X8_isRow : GoodIn wsX8_read (va_wsS RX8 61 yX8_isRow wsX8_isRow) := goodIn_app (goodIn_of _ (by decide +kernel)) ggX8_read_X8_isRow
set_option maxRecDepth 20000 in
theorem ggX8_read_X8_within : GoodIn wsX8_read wsX8_within := goodIn_r _ [10] (by decide +kernel) (by decide +kernel)
set_option maxRecDepth 20000 in
theorem gX8_read_X8_within : GoodIn wsX8_read (va_wsS RX8 40 yX8_within wsX8_within) := goodIn_app (goodIn_of _ (by decide +kernel)) ggX8_read_X8_within
set_option maxRecDepth 20000 in
theorem ggX8_read_X8_readMany : GoodIn wsX8_read wsX8_readMany := goodIn_r _ [17, 1, 18, 19, 20, 5, 21, 2, 3, 4, 6, 7, 8, 9, 10, 22, 23, 24, 25, 26, 27, 28, 29, 30, 31, 32, 33, 34, 35, 36, 37, 38, 39, 40, 41, 42, 43, 44, 45, 46, 47] (by decide +kernel) (by decide +kernel)
set_option maxRecDepth 20000 in
theorem gX8_read_X8_readMany : GoodIn wsX8_read (wsV RX8 86 RX8 yX8_readMany wsX8_readMany) := goodIn_app (goodIn_of _ (by decide +kernel)) ggX8_read_X8_readMany
theorem dX8_read_0 : decode cX8_read 0 = .ok (.lload_n 2, 1) := by decide +kernel
theorem dX8_read_1 : decode cX8_read 1 = .ok (.iconst 3, 1) := by decide +kernel
theorem dX8_read_2 : decode cX8_read 2 = .ok (.invokestatic 46, 3) := by decide +kernel
theorem dX8_read_5 : decode cX8_read 5 = .ok (.istore 5, 2) := by decide +kernel
theorem dX8_read_7 : decode cX8_read 7 = .ok (.iload_n 1, 1) := by decide +kernel
theorem dX8_read_8 : decode cX8_read 8 = .ok (.bipush 9, 2) := by decide +kernel
theorem dX8_read_10 : decode cX8_read 10 = .ok (.invokestatic 61, 3) := by decide +kernel
theorem dX8_read_13 : decode cX8_read 13 = .ok (.ifCond .eq 24, 3) := by decide +kernel
theorem dX8_read_16 : decode cX8_read 16 = .ok (.iload 5, 2) := by decide +kernel
theorem dX8_read_18 : decode cX8_read 18 = .ok (.iconst 0, 1) := by decide +kernel
theorem dX8_read_19 : decode cX8_read 19 = .ok (.bipush 12, 2) := by decide +kernel
theorem dX8_read_21 : decode cX8_read 21 = .ok (.invokestatic 40, 3) := by decide +kernel
theorem dX8_read_24 : decode cX8_read 24 = .ok (.ifCond .eq 13, 3) := by decide +kernel
theorem dX8_read_27 : decode cX8_read 27 = .ok (.iload 4, 2) := by decide +kernel
theorem dX8_read_29 : decode cX8_read 29 = .ok (.iconst 0, 1) := by decide +kernel
theorem dX8_read_30 : decode cX8_read 30 = .ok (.iconst 3, 1) := by decide +kernel
theorem dX8_read_31 : decode cX8_read 31 = .ok (.invokestatic 40, 3) := by decide +kernel
theorem dX8_read_34 : decode cX8_read 34 = .ok (.ifCond .ne 6, 3) := by decide +kernel
theorem dX8_read_37 : decode cX8_read 37 = .ok (.bipush (-2), 2) := by decide +kernel
theorem dX8_read_39 : decode cX8_read 39 = .ok (.ireturn, 1) := by decide +kernel
theorem dX8_read_40 : decode cX8_read 40 = .ok (.aload_n 0, 1) := by decide +kernel
theorem dX8_read_41 : decode cX8_read 41 = .ok (.iload_n 1, 1) := by decide +kernel
theorem dX8_read_42 : decode cX8_read 42 = .ok (.lload_n 2, 1) := by decide +kernel
theorem dX8_read_43 : decode cX8_read 43 = .ok (.iload 5, 2) := by decide +kernel
theorem dX8_read_45 : decode cX8_read 45 = .ok (.invokevirtual 86, 3) := by decide +kernel
theorem dX8_read_48 : decode cX8_read 48 = .ok (.istore 6, 2) := by decide +kernel
theorem dX8_read_50 : decode cX8_read 50 = .ok (.iload 4, 2) := by decide +kernel
theorem dX8_read_52 : decode cX8_read 52 = .ok (.tableswitch 60 0 2 #[28, 31, 36], 28) := by decide +kernel
theorem dX8_read_80 : decode cX8_read 80 = .ok (.iload 6, 2) := by decide +kernel
theorem dX8_read_82 : decode cX8_read 82 = .ok (.ireturn, 1) := by decide +kernel
theorem dX8_read_83 : decode cX8_read 83 = .ok (.aload_n 0, 1) := by decide +kernel
theorem dX8_read_84 : decode cX8_read 84 = .ok (.getfield 72, 3) := by decide +kernel
theorem dX8_read_87 : decode cX8_read 87 = .ok (.ireturn, 1) := by decide +kernel
theorem dX8_read_88 : decode cX8_read 88 = .ok (.aload_n 0, 1) := by decide +kernel
theorem dX8_read_89 : decode cX8_read 89 = .ok (.getfield 72, 3) := by decide +kernel
theorem dX8_read_92 : decode cX8_read 92 = .ok (.ifCond .ne 8, 3) := by decide +kernel
theorem dX8_read_95 : decode cX8_read 95 = .ok (.bipush (-9), 2) := by decide +kernel
theorem dX8_read_97 : decode cX8_read 97 = .ok (.goto 14, 3) := by decide +kernel
theorem dX8_read_100 : decode cX8_read 100 = .ok (.aload_n 0, 1) := by decide +kernel
theorem dX8_read_101 : decode cX8_read 101 = .ok (.getfield 16, 3) := by decide +kernel
theorem dX8_read_104 : decode cX8_read 104 = .ok (.aload_n 0, 1) := by decide +kernel
theorem dX8_read_105 : decode cX8_read 105 = .ok (.getfield 72, 3) := by decide +kernel
theorem dX8_read_108 : decode cX8_read 108 = .ok (.iconst 1, 1) := by decide +kernel
theorem dX8_read_109 : decode cX8_read 109 = .ok (.isub, 1) := by decide +kernel
theorem dX8_read_110 : decode cX8_read 110 = .ok (.iaload, 1) := by decide +kernel
theorem dX8_read_111 : decode cX8_read 111 = .ok (.ireturn, 1) := by decide +kernel
theorem dX8_read_112 : decode cX8_read 112 = .ok (.iload 6, 2) := by decide +kernel
theorem dX8_read_114 : decode cX8_read 114 = .ok (.iload 5, 2) := by decide +kernel
theorem dX8_read_116 : decode cX8_read 116 = .ok (.if_icmp .ne 14, 3) := by decide +kernel
theorem dX8_read_119 : decode cX8_read 119 = .ok (.aload_n 0, 1) := by decide +kernel
theorem dX8_read_120 : decode cX8_read 120 = .ok (.getfield 72, 3) := by decide +kernel
theorem dX8_read_123 : decode cX8_read 123 = .ok (.ifCond .ne 7, 3) := by decide +kernel
theorem dX8_read_126 : decode cX8_read 126 = .ok (.iconst 1, 1) := by decide +kernel
theorem dX8_read_127 : decode cX8_read 127 = .ok (.goto 4, 3) := by decide +kernel
theorem dX8_read_130 : decode cX8_read 130 = .ok (.iconst 0, 1) := by decide +kernel
theorem dX8_read_131 : decode cX8_read 131 = .ok (.ireturn, 1) := by decide +kernel
set_option maxRecDepth 20000 in
theorem ggX8_normOf_X8_digits : GoodIn wsX8_normOf wsX8_digits := goodIn_r _ [5, 6, 7, 8, 4, 9] (by decide +kernel) (by decide +kernel)
set_option maxRecDepth 20000 in
theorem gX8_normOf_X8_digits : GoodIn wsX8_normOf (va_wsS RX8 46 yX8_digits wsX8_digits) := goodIn_app (goodIn_of _ (by decide +kernel)) ggX8_normOf_X8_digits
set_option maxRecDepth 20000 in
theorem ggX8_normOf_X8_digitAt : GoodIn wsX8_normOf wsX8_digitAt := goodIn_r _ [12, 6] (by decide +kernel) (by decide +kernel)
set_option maxRecDepth 20000 in
theorem gX8_normOf_X8_digitAt : GoodIn wsX8_normOf (va_wsS RX8 75 yX8_digitAt wsX8_digitAt) := goodIn_app (goodIn_of _ (by decide +kernel)) ggX8_normOf_X8_digitAt
theorem dX8_normOf_0 : decode cX8_normOf 0 = .ok (.iload_n 1, 1) := by decide +kernel
theorem dX8_normOf_1 : decode cX8_normOf 1 = .ok (.i2l, 1) := by decide +kernel
theorem dX8_normOf_2 : decode cX8_normOf 2 = .ok (.bipush 6, 2) := by decide +kernel
theorem dX8_normOf_4 : decode cX8_normOf 4 = .ok (.invokestatic 46, 3) := by decide +kernel
theorem dX8_normOf_7 : decode cX8_normOf 7 = .ok (.istore_n 2, 1) := by decide +kernel
theorem dX8_normOf_8 : decode cX8_normOf 8 = .ok (.iconst 0, 1) := by decide +kernel
theorem dX8_normOf_9 : decode cX8_normOf 9 = .ok (.istore_n 3, 1) := by decide +kernel
theorem dX8_normOf_10 : decode cX8_normOf 10 = .ok (.iconst 0, 1) := by decide +kernel
theorem dX8_normOf_11 : decode cX8_normOf 11 = .ok (.istore 4, 2) := by decide +kernel
theorem dX8_normOf_13 : decode cX8_normOf 13 = .ok (.iload 4, 2) := by decide +kernel
theorem dX8_normOf_15 : decode cX8_normOf 15 = .ok (.iload_n 2, 1) := by decide +kernel
theorem dX8_normOf_16 : decode cX8_normOf 16 = .ok (.if_icmp .ge 39, 3) := by decide +kernel
theorem dX8_normOf_19 : decode cX8_normOf 19 = .ok (.aload_n 0, 1) := by decide +kernel
theorem dX8_normOf_20 : decode cX8_normOf 20 = .ok (.getfield 19, 3) := by decide +kernel
theorem dX8_normOf_23 : decode cX8_normOf 23 = .ok (.iload_n 1, 1) := by decide +kernel
theorem dX8_normOf_24 : decode cX8_normOf 24 = .ok (.i2l, 1) := by decide +kernel
theorem dX8_normOf_25 : decode cX8_normOf 25 = .ok (.iload_n 2, 1) := by decide +kernel
theorem dX8_normOf_26 : decode cX8_normOf 26 = .ok (.iload 4, 2) := by decide +kernel
theorem dX8_normOf_28 : decode cX8_normOf 28 = .ok (.invokestatic 75, 3) := by decide +kernel
theorem dX8_normOf_31 : decode cX8_normOf 31 = .ok (.iaload, 1) := by decide +kernel
theorem dX8_normOf_32 : decode cX8_normOf 32 = .ok (.istore 5, 2) := by decide +kernel
theorem dX8_normOf_34 : decode cX8_normOf 34 = .ok (.iload 5, 2) := by decide +kernel
theorem dX8_normOf_36 : decode cX8_normOf 36 = .ok (.bipush (-9), 2) := by decide +kernel
theorem dX8_normOf_38 : decode cX8_normOf 38 = .ok (.if_icmp .ne 6, 3) := by decide +kernel
theorem dX8_normOf_41 : decode cX8_normOf 41 = .ok (.bipush (-9), 2) := by decide +kernel
theorem dX8_normOf_43 : decode cX8_normOf 43 = .ok (.ireturn, 1) := by decide +kernel
theorem dX8_normOf_44 : decode cX8_normOf 44 = .ok (.iload_n 3, 1) := by decide +kernel
theorem dX8_normOf_45 : decode cX8_normOf 45 = .ok (.iload 5, 2) := by decide +kernel
theorem dX8_normOf_47 : decode cX8_normOf 47 = .ok (.iadd, 1) := by decide +kernel
theorem dX8_normOf_48 : decode cX8_normOf 48 = .ok (.istore_n 3, 1) := by decide +kernel
theorem dX8_normOf_49 : decode cX8_normOf 49 = .ok (.iinc 4 1, 3) := by decide +kernel
theorem dX8_normOf_52 : decode cX8_normOf 52 = .ok (.goto (-39), 3) := by decide +kernel
theorem dX8_normOf_55 : decode cX8_normOf 55 = .ok (.iload_n 3, 1) := by decide +kernel
theorem dX8_normOf_56 : decode cX8_normOf 56 = .ok (.ireturn, 1) := by decide +kernel
set_option maxRecDepth 20000 in
theorem ggX8_findNorms_X8_normOf : GoodIn wsX8_findNorms wsX8_normOf := goodIn_r _ [7, 1, 8, 9, 6, 10, 11, 12, 13, 14, 15, 16, 17, 18, 19, 20, 21, 22, 23, 24, 25, 26, 27, 28, 29, 30, 31] (by decide +kernel) (by decide +kernel)
set_option maxRecDepth 20000 in
theorem gX8_findNorms_X8_normOf : GoodIn wsX8_findNorms (wsV RX8 90 RX8 yX8_normOf wsX8_normOf) := goodIn_app (goodIn_of _ (by decide +kernel)) ggX8_findNorms_X8_normOf
theorem dX8_findNorms_0 : decode cX8_findNorms 0 = .ok (.iconst 0, 1) := by decide +kernel
theorem dX8_findNorms_1 : decode cX8_findNorms 1 = .ok (.istore_n 1, 1) := by decide +kernel
theorem dX8_findNorms_2 : decode cX8_findNorms 2 = .ok (.iload_n 1, 1) := by decide +kernel
theorem dX8_findNorms_3 : decode cX8_findNorms 3 = .ok (.bipush 6, 2) := by decide +kernel
theorem dX8_findNorms_5 : decode cX8_findNorms 5 = .ok (.if_icmp .ge 17, 3) := by decide +kernel
theorem dX8_findNorms_8 : decode cX8_findNorms 8 = .ok (.aload_n 0, 1) := by decide +kernel
theorem dX8_findNorms_9 : decode cX8_findNorms 9 = .ok (.getfield 19, 3) := by decide +kernel
theorem dX8_findNorms_12 : decode cX8_findNorms 12 = .ok (.iload_n 1, 1) := by decide +kernel
theorem dX8_findNorms_13 : decode cX8_findNorms 13 = .ok (.bipush (-9), 2) := by decide +kernel
theorem dX8_findNorms_15 : decode cX8_findNorms 15 = .ok (.iastore, 1) := by decide +kernel
theorem dX8_findNorms_16 : decode cX8_findNorms 16 = .ok (.iinc 1 1, 3) := by decide +kernel
theorem dX8_findNorms_19 : decode cX8_findNorms 19 = .ok (.goto (-17), 3) := by decide +kernel
theorem dX8_findNorms_22 : decode cX8_findNorms 22 = .ok (.iconst 1, 1) := by decide +kernel
theorem dX8_findNorms_23 : decode cX8_findNorms 23 = .ok (.istore_n 1, 1) := by decide +kernel
theorem dX8_findNorms_24 : decode cX8_findNorms 24 = .ok (.iload_n 1, 1) := by decide +kernel
theorem dX8_findNorms_25 : decode cX8_findNorms 25 = .ok (.ifCond .eq 97, 3) := by decide +kernel
theorem dX8_findNorms_28 : decode cX8_findNorms 28 = .ok (.iconst 0, 1) := by decide +kernel
theorem dX8_findNorms_29 : decode cX8_findNorms 29 = .ok (.istore_n 1, 1) := by decide +kernel
theorem dX8_findNorms_30 : decode cX8_findNorms 30 = .ok (.iconst 0, 1) := by decide +kernel
theorem dX8_findNorms_31 : decode cX8_findNorms 31 = .ok (.istore_n 2, 1) := by decide +kernel
theorem dX8_findNorms_32 : decode cX8_findNorms 32 = .ok (.iload_n 2, 1) := by decide +kernel
theorem dX8_findNorms_33 : decode cX8_findNorms 33 = .ok (.bipush 18, 2) := by decide +kernel
theorem dX8_findNorms_35 : decode cX8_findNorms 35 = .ok (.if_icmp .ge 84, 3) := by decide +kernel
theorem dX8_findNorms_38 : decode cX8_findNorms 38 = .ok (.aload_n 0, 1) := by decide +kernel
theorem dX8_findNorms_39 : decode cX8_findNorms 39 = .ok (.getfield 7, 3) := by decide +kernel
theorem dX8_findNorms_42 : decode cX8_findNorms 42 = .ok (.iload_n 2, 1) := by decide +kernel
theorem dX8_findNorms_43 : decode cX8_findNorms 43 = .ok (.iaload, 1) := by decide +kernel
theorem dX8_findNorms_44 : decode cX8_findNorms 44 = .ok (.bipush (-9), 2) := by decide +kernel
theorem dX8_findNorms_46 : decode cX8_findNorms 46 = .ok (.if_icmp .ne 8, 3) := by decide +kernel
theorem dX8_findNorms_49 : decode cX8_findNorms 49 = .ok (.bipush (-9), 2) := by decide +kernel
theorem dX8_findNorms_51 : decode cX8_findNorms 51 = .ok (.goto 13, 3) := by decide +kernel
theorem dX8_findNorms_54 : decode cX8_findNorms 54 = .ok (.aload_n 0, 1) := by decide +kernel
theorem dX8_findNorms_55 : decode cX8_findNorms 55 = .ok (.aload_n 0, 1) := by decide +kernel
theorem dX8_findNorms_56 : decode cX8_findNorms 56 = .ok (.getfield 7, 3) := by decide +kernel
theorem dX8_findNorms_59 : decode cX8_findNorms 59 = .ok (.iload_n 2, 1) := by decide +kernel
theorem dX8_findNorms_60 : decode cX8_findNorms 60 = .ok (.iaload, 1) := by decide +kernel
theorem dX8_findNorms_61 : decode cX8_findNorms 61 = .ok (.invokevirtual 90, 3) := by decide +kernel
theorem dX8_findNorms_64 : decode cX8_findNorms 64 = .ok (.istore_n 3, 1) := by decide +kernel
theorem dX8_findNorms_65 : decode cX8_findNorms 65 = .ok (.iload_n 2, 1) := by decide +kernel
theorem dX8_findNorms_66 : decode cX8_findNorms 66 = .ok (.iconst 3, 1) := by decide +kernel
theorem dX8_findNorms_67 : decode cX8_findNorms 67 = .ok (.idiv, 1) := by decide +kernel
theorem dX8_findNorms_68 : decode cX8_findNorms 68 = .ok (.istore 4, 2) := by decide +kernel
theorem dX8_findNorms_70 : decode cX8_findNorms 70 = .ok (.iload_n 3, 1) := by decide +kernel
theorem dX8_findNorms_71 : decode cX8_findNorms 71 = .ok (.bipush (-9), 2) := by decide +kernel
theorem dX8_findNorms_73 : decode cX8_findNorms 73 = .ok (.if_icmp .eq 40, 3) := by decide +kernel
theorem dX8_findNorms_76 : decode cX8_findNorms 76 = .ok (.aload_n 0, 1) := by decide +kernel
theorem dX8_findNorms_77 : decode cX8_findNorms 77 = .ok (.getfield 19, 3) := by decide +kernel
theorem dX8_findNorms_80 : decode cX8_findNorms 80 = .ok (.iload 4, 2) := by decide +kernel
theorem dX8_findNorms_82 : decode cX8_findNorms 82 = .ok (.iaload, 1) := by decide +kernel
theorem dX8_findNorms_83 : decode cX8_findNorms 83 = .ok (.bipush (-9), 2) := by decide +kernel
theorem dX8_findNorms_85 : decode cX8_findNorms 85 = .ok (.if_icmp .eq 16, 3) := by decide +kernel
theorem dX8_findNorms_88 : decode cX8_findNorms 88 = .ok (.iload_n 3, 1) := by decide +kernel
theorem dX8_findNorms_89 : decode cX8_findNorms 89 = .ok (.iconst 1, 1) := by decide +kernel
theorem dX8_findNorms_90 : decode cX8_findNorms 90 = .ok (.iadd, 1) := by decide +kernel
theorem dX8_findNorms_91 : decode cX8_findNorms 91 = .ok (.aload_n 0, 1) := by decide +kernel
theorem dX8_findNorms_92 : decode cX8_findNorms 92 = .ok (.getfield 19, 3) := by decide +kernel
theorem dX8_findNorms_95 : decode cX8_findNorms 95 = .ok (.iload 4, 2) := by decide +kernel
theorem dX8_findNorms_97 : decode cX8_findNorms 97 = .ok (.iaload, 1) := by decide +kernel
theorem dX8_findNorms_98 : decode cX8_findNorms 98 = .ok (.if_icmp .ge 15, 3) := by decide +kernel
theorem dX8_findNorms_101 : decode cX8_findNorms 101 = .ok (.aload_n 0, 1) := by decide +kernel
theorem dX8_findNorms_102 : decode cX8_findNorms 102 = .ok (.getfield 19, 3) := by decide +kernel
theorem dX8_findNorms_105 : decode cX8_findNorms 105 = .ok (.iload 4, 2) := by decide +kernel
theorem dX8_findNorms_107 : decode cX8_findNorms 107 = .ok (.iload_n 3, 1) := by decide +kernel
theorem dX8_findNorms_108 : decode cX8_findNorms 108 = .ok (.iconst 1, 1) := by decide +kernel
theorem dX8_findNorms_109 : decode cX8_findNorms 109 = .ok (.iadd, 1) := by decide +kernel
theorem dX8_findNorms_110 : decode cX8_findNorms 110 = .ok (.iastore, 1) := by decide +kernel
theorem dX8_findNorms_111 : decode cX8_findNorms 111 = .ok (.iconst 1, 1) := by decide +kernel
theorem dX8_findNorms_112 : decode cX8_findNorms 112 = .ok (.istore_n 1, 1) := by decide +kernel
theorem dX8_findNorms_113 : decode cX8_findNorms 113 = .ok (.iinc 2 1, 3) := by decide +kernel
theorem dX8_findNorms_116 : decode cX8_findNorms 116 = .ok (.goto (-84), 3) := by decide +kernel
theorem dX8_findNorms_119 : decode cX8_findNorms 119 = .ok (.goto (-95), 3) := by decide +kernel
theorem dX8_findNorms_122 : decode cX8_findNorms 122 = .ok (.return_, 1) := by decide +kernel
set_option maxRecDepth 20000 in
theorem ggX8_norm_X8_isRow : GoodIn wsX8_norm wsX8_isRow := goodIn_r _ [4, 5, 6, 3, 7, 8, 9, 10, 11] (by decide +kernel) (by decide +kernel)
set_option maxRecDepth 20000 in
theorem gX8_norm_X8_isRow : GoodIn wsX8_norm (va_wsS RX8 61 yX8_isRow wsX8_isRow) := goodIn_app (goodIn_of _ (by decide +kernel)) ggX8_norm_X8_isRow
set_option maxRecDepth 20000 in
theorem ggX8_norm_X8_findNorms : GoodIn wsX8_norm wsX8_findNorms := goodIn_r _ [15, 16, 17, 18, 19, 20, 3, 21, 5, 6, 7, 8, 9, 10, 11, 22, 23, 24, 25, 26, 27, 28, 29, 30, 31, 32, 33, 34, 35, 36, 37, 38] (by decide +kernel) (by decide +kernel)
set_option maxRecDepth 20000 in
theorem gX8_norm_X8_findNorms : GoodIn wsX8_norm (wsV RX8 94 RX8 yX8_findNorms wsX8_findNorms) := goodIn_app (goodIn_of _ (by decide +kernel)) ggX8_norm_X8_findNorms
set_option maxRecDepth 20000 in
theorem ggX8_norm_X8_normOf : GoodIn wsX8_norm wsX8_normOf := goodIn_r _ [21, 16, 5, 6, 3, 7, 8, 9, 10, 11, 22, 23, 24, 25, 26, 27, 28, 29, 30, 31, 32, 33, 34, 35, 36, 37, 38] (by decide +kernel) (by decide +kernel)
set_option maxRecDepth 20000 in
theorem gX8_norm_X8_normOf : GoodIn wsX8_norm (wsV RX8 90 RX8 yX8_normOf wsX8_normOf) := goodIn_app (goodIn_of _ (by decide +kernel)) ggX8_norm_X8_normOf
theorem dX8_norm_0 : decode cX8_norm 0 = .ok (.iload_n 1, 1) := by decide +kernel
theorem dX8_norm_1 : decode cX8_norm 1 = .ok (.bipush 9, 2) := by decide +kernel
theorem dX8_norm_3 : decode cX8_norm 3 = .ok (.invokestatic 61, 3) := by decide +kernel
theorem dX8_norm_6 : decode cX8_norm 6 = .ok (.ifCond .ne 6, 3) := by decide +kernel
theorem dX8_norm_9 : decode cX8_norm 9 = .ok (.bipush (-2), 2) := by decide +kernel
theorem dX8_norm_11 : decode cX8_norm 11 = .ok (.ireturn, 1) := by decide +kernel
theorem dX8_norm_12 : decode cX8_norm 12 = .ok (.aload_n 0, 1) := by decide +kernel
theorem dX8_norm_13 : decode cX8_norm 13 = .ok (.invokevirtual 94, 3) := by decide +kernel
theorem dX8_norm_16 : decode cX8_norm 16 = .ok (.aload_n 0, 1) := by decide +kernel
theorem dX8_norm_17 : decode cX8_norm 17 = .ok (.iload_n 1, 1) := by decide +kernel
theorem dX8_norm_18 : decode cX8_norm 18 = .ok (.invokevirtual 90, 3) := by decide +kernel
theorem dX8_norm_21 : decode cX8_norm 21 = .ok (.ireturn, 1) := by decide +kernel
set_option maxRecDepth 20000 in
theorem ggX8_least_X8_isRow : GoodIn wsX8_least wsX8_isRow := goodIn_r _ [10, 11, 12, 9, 13, 6, 14, 15, 16] (by decide +kernel) (by decide +kernel)
set_option maxRecDepth 20000 in
theorem gX8_least_X8_isRow : GoodIn wsX8_least (va_wsS RX8 61 yX8_isRow wsX8_isRow) := goodIn_app (goodIn_of _ (by decide +kernel)) ggX8_least_X8_isRow
set_option maxRecDepth 20000 in
theorem ggX8_least_X8_findNorms : GoodIn wsX8_least wsX8_findNorms := goodIn_r _ [20, 5, 21, 22, 23, 24, 9, 25, 11, 12, 13, 6, 14, 15, 16, 26, 27, 28, 41, 42, 43, 44, 45, 46, 47, 48, 49, 50, 51, 52, 53, 54] (by decide +kernel) (by decide +kernel)
set_option maxRecDepth 20000 in
theorem gX8_least_X8_findNorms : GoodIn wsX8_least (wsV RX8 94 RX8 yX8_findNorms wsX8_findNorms) := goodIn_app (goodIn_of _ (by decide +kernel)) ggX8_least_X8_findNorms
set_option maxRecDepth 20000 in
theorem ggX8_least_X8_normOf : GoodIn wsX8_least wsX8_normOf := goodIn_r _ [25, 5, 11, 12, 9, 13, 6, 14, 15, 16, 26, 27, 28, 41, 42, 43, 44, 45, 46, 47, 48, 49, 50, 51, 52, 53, 54] (by decide +kernel) (by decide +kernel)
set_option maxRecDepth 20000 in
theorem gX8_least_X8_normOf : GoodIn wsX8_least (wsV RX8 90 RX8 yX8_normOf wsX8_normOf) := goodIn_app (goodIn_of _ (by decide +kernel)) ggX8_least_X8_normOf
set_option maxRecDepth 20000 in
theorem ggX8_least_X8_stacks : GoodIn wsX8_least wsX8_stacks := goodIn_r _ [32, 4, 3, 11, 12, 9, 13, 6, 14, 15, 16, 26, 27, 28, 41, 42, 43, 44, 45, 46, 47, 48, 49, 50, 51, 52, 53, 54] (by decide +kernel) (by decide +kernel)
set_option maxRecDepth 20000 in
theorem gX8_least_X8_stacks : GoodIn wsX8_least (wsV RX8 79 RX8 yX8_stacks wsX8_stacks) := goodIn_app (goodIn_of _ (by decide +kernel)) ggX8_least_X8_stacks
set_option maxRecDepth 20000 in
theorem ggX8_least_X8_ruleOf : GoodIn wsX8_least wsX8_ruleOf := goodIn_r _ [36, 21, 41, 42, 43, 44, 45, 46, 47, 48, 49, 50, 51, 52, 53, 54] (by decide +kernel) (by decide +kernel)
set_option maxRecDepth 20000 in
theorem gX8_least_X8_ruleOf : GoodIn wsX8_least (wsV RX8 68 RX8 yX8_ruleOf wsX8_ruleOf) := goodIn_app (goodIn_of _ (by decide +kernel)) ggX8_least_X8_ruleOf
set_option maxRecDepth 20000 in
theorem ggX8_least_X8_reads : GoodIn wsX8_least wsX8_reads := goodIn_r _ [40, 3, 4, 33, 34, 35, 9, 36, 21, 29, 30, 31, 32, 11, 12, 13, 6, 14, 15, 16, 26, 27, 28, 41, 42, 43, 44, 45, 46, 47, 48, 49, 50, 51, 52, 53, 54] (by decide +kernel) (by decide +kernel)
set_option maxRecDepth 20000 in
theorem gX8_least_X8_reads : GoodIn wsX8_least (wsV RX8 83 RX8 yX8_reads wsX8_reads) := goodIn_app (goodIn_of _ (by decide +kernel)) ggX8_least_X8_reads
theorem dX8_least_0 : decode cX8_least 0 = .ok (.iload_n 1, 1) := by decide +kernel
theorem dX8_least_1 : decode cX8_least 1 = .ok (.bipush 9, 2) := by decide +kernel
theorem dX8_least_3 : decode cX8_least 3 = .ok (.invokestatic 61, 3) := by decide +kernel
theorem dX8_least_6 : decode cX8_least 6 = .ok (.ifCond .ne 7, 3) := by decide +kernel
theorem dX8_least_9 : decode cX8_least 9 = .ok (.ldc2_w 97, 3) := by decide +kernel
theorem dX8_least_12 : decode cX8_least 12 = .ok (.lreturn, 1) := by decide +kernel
end
section
theorem dX8_least_13 : decode cX8_least 13 = .ok (.aload_n 0, 1) := by decide +kernel
theorem dX8_least_14 : decode cX8_least 14 = .ok (.invokevirtual 94, 3) := by decide +kernel
theorem dX8_least_17 : decode cX8_least 17 = .ok (.aload_n 0, 1) := by decide +kernel
theorem dX8_least_18 : decode cX8_least 18 = .ok (.iload_n 1, 1) := by decide +kernel
theorem dX8_least_19 : decode cX8_least 19 = .ok (.invokevirtual 90, 3) := by decide +kernel
theorem dX8_least_22 : decode cX8_least 22 = .ok (.istore_n 2, 1) := by decide +kernel
theorem dX8_least_23 : decode cX8_least 23 = .ok (.iload_n 2, 1) := by decide +kernel
theorem dX8_least_24 : decode cX8_least 24 = .ok (.bipush (-9), 2) := by decide +kernel
theorem dX8_least_26 : decode cX8_least 26 = .ok (.if_icmp .eq 9, 3) := by decide +kernel
theorem dX8_least_29 : decode cX8_least 29 = .ok (.iload_n 2, 1) := by decide +kernel
theorem dX8_least_30 : decode cX8_least 30 = .ok (.bipush 12, 2) := by decide +kernel
theorem dX8_least_32 : decode cX8_least 32 = .ok (.if_icmp .le 7, 3) := by decide +kernel
theorem dX8_least_35 : decode cX8_least 35 = .ok (.ldc2_w 99, 3) := by decide +kernel
theorem dX8_least_38 : decode cX8_least 38 = .ok (.lreturn, 1) := by decide +kernel
theorem dX8_least_39 : decode cX8_least 39 = .ok (.lconst 0, 1) := by decide +kernel
theorem dX8_least_40 : decode cX8_least 40 = .ok (.lstore_n 3, 1) := by decide +kernel
theorem dX8_least_41 : decode cX8_least 41 = .ok (.aload_n 0, 1) := by decide +kernel
theorem dX8_least_42 : decode cX8_least 42 = .ok (.iconst 0, 1) := by decide +kernel
theorem dX8_least_43 : decode cX8_least 43 = .ok (.putfield 72, 3) := by decide +kernel
theorem dX8_least_46 : decode cX8_least 46 = .ok (.aload_n 0, 1) := by decide +kernel
theorem dX8_least_47 : decode cX8_least 47 = .ok (.iload_n 1, 1) := by decide +kernel
theorem dX8_least_48 : decode cX8_least 48 = .ok (.invokevirtual 79, 3) := by decide +kernel
theorem dX8_least_51 : decode cX8_least 51 = .ok (.aload_n 0, 1) := by decide +kernel
theorem dX8_least_52 : decode cX8_least 52 = .ok (.getfield 72, 3) := by decide +kernel
theorem dX8_least_55 : decode cX8_least 55 = .ok (.ifCond .le 101, 3) := by decide +kernel
theorem dX8_least_58 : decode cX8_least 58 = .ok (.aload_n 0, 1) := by decide +kernel
theorem dX8_least_59 : decode cX8_least 59 = .ok (.getfield 16, 3) := by decide +kernel
theorem dX8_least_62 : decode cX8_least 62 = .ok (.aload_n 0, 1) := by decide +kernel
theorem dX8_least_63 : decode cX8_least 63 = .ok (.getfield 72, 3) := by decide +kernel
theorem dX8_least_66 : decode cX8_least 66 = .ok (.iconst 1, 1) := by decide +kernel
theorem dX8_least_67 : decode cX8_least 67 = .ok (.isub, 1) := by decide +kernel
theorem dX8_least_68 : decode cX8_least 68 = .ok (.iaload, 1) := by decide +kernel
theorem dX8_least_69 : decode cX8_least 69 = .ok (.istore 5, 2) := by decide +kernel
theorem dX8_least_71 : decode cX8_least 71 = .ok (.iconst 0, 1) := by decide +kernel
theorem dX8_least_72 : decode cX8_least 72 = .ok (.istore 6, 2) := by decide +kernel
theorem dX8_least_74 : decode cX8_least 74 = .ok (.aload_n 0, 1) := by decide +kernel
theorem dX8_least_75 : decode cX8_least 75 = .ok (.iload 5, 2) := by decide +kernel
theorem dX8_least_77 : decode cX8_least 77 = .ok (.iload 6, 2) := by decide +kernel
theorem dX8_least_79 : decode cX8_least 79 = .ok (.invokevirtual 68, 3) := by decide +kernel
theorem dX8_least_82 : decode cX8_least 82 = .ok (.bipush (-9), 2) := by decide +kernel
theorem dX8_least_84 : decode cX8_least 84 = .ok (.if_icmp .eq 44, 3) := by decide +kernel
theorem dX8_least_87 : decode cX8_least 87 = .ok (.aload_n 0, 1) := by decide +kernel
theorem dX8_least_88 : decode cX8_least 88 = .ok (.aload_n 0, 1) := by decide +kernel
theorem dX8_least_89 : decode cX8_least 89 = .ok (.iload 5, 2) := by decide +kernel
theorem dX8_least_91 : decode cX8_least 91 = .ok (.iload 6, 2) := by decide +kernel
theorem dX8_least_93 : decode cX8_least 93 = .ok (.invokevirtual 68, 3) := by decide +kernel
theorem dX8_least_96 : decode cX8_least 96 = .ok (.invokevirtual 90, 3) := by decide +kernel
theorem dX8_least_99 : decode cX8_least 99 = .ok (.bipush (-9), 2) := by decide +kernel
theorem dX8_least_101 : decode cX8_least 101 = .ok (.if_icmp .eq 27, 3) := by decide +kernel
theorem dX8_least_104 : decode cX8_least 104 = .ok (.aload_n 0, 1) := by decide +kernel
theorem dX8_least_105 : decode cX8_least 105 = .ok (.aload_n 0, 1) := by decide +kernel
theorem dX8_least_106 : decode cX8_least 106 = .ok (.iload 5, 2) := by decide +kernel
theorem dX8_least_108 : decode cX8_least 108 = .ok (.iload 6, 2) := by decide +kernel
theorem dX8_least_110 : decode cX8_least 110 = .ok (.invokevirtual 68, 3) := by decide +kernel
theorem dX8_least_113 : decode cX8_least 113 = .ok (.invokevirtual 90, 3) := by decide +kernel
theorem dX8_least_116 : decode cX8_least 116 = .ok (.iconst 1, 1) := by decide +kernel
theorem dX8_least_117 : decode cX8_least 117 = .ok (.iadd, 1) := by decide +kernel
theorem dX8_least_118 : decode cX8_least 118 = .ok (.aload_n 0, 1) := by decide +kernel
theorem dX8_least_119 : decode cX8_least 119 = .ok (.getfield 19, 3) := by decide +kernel
theorem dX8_least_122 : decode cX8_least 122 = .ok (.iload 5, 2) := by decide +kernel
theorem dX8_least_124 : decode cX8_least 124 = .ok (.iaload, 1) := by decide +kernel
theorem dX8_least_125 : decode cX8_least 125 = .ok (.if_icmp .eq 9, 3) := by decide +kernel
theorem dX8_least_128 : decode cX8_least 128 = .ok (.iinc 6 1, 3) := by decide +kernel
theorem dX8_least_131 : decode cX8_least 131 = .ok (.goto (-57), 3) := by decide +kernel
theorem dX8_least_134 : decode cX8_least 134 = .ok (.ldc2_w 44, 3) := by decide +kernel
theorem dX8_least_137 : decode cX8_least 137 = .ok (.lload_n 3, 1) := by decide +kernel
theorem dX8_least_138 : decode cX8_least 138 = .ok (.lmul, 1) := by decide +kernel
theorem dX8_least_139 : decode cX8_least 139 = .ok (.iload 6, 2) := by decide +kernel
theorem dX8_least_141 : decode cX8_least 141 = .ok (.i2l, 1) := by decide +kernel
theorem dX8_least_142 : decode cX8_least 142 = .ok (.ladd, 1) := by decide +kernel
theorem dX8_least_143 : decode cX8_least 143 = .ok (.lconst 1, 1) := by decide +kernel
theorem dX8_least_144 : decode cX8_least 144 = .ok (.ladd, 1) := by decide +kernel
theorem dX8_least_145 : decode cX8_least 145 = .ok (.lstore_n 3, 1) := by decide +kernel
theorem dX8_least_146 : decode cX8_least 146 = .ok (.aload_n 0, 1) := by decide +kernel
theorem dX8_least_147 : decode cX8_least 147 = .ok (.iload 6, 2) := by decide +kernel
theorem dX8_least_149 : decode cX8_least 149 = .ok (.invokevirtual 83, 3) := by decide +kernel
theorem dX8_least_152 : decode cX8_least 152 = .ok (.pop, 1) := by decide +kernel
theorem dX8_least_153 : decode cX8_least 153 = .ok (.goto (-102), 3) := by decide +kernel
theorem dX8_least_156 : decode cX8_least 156 = .ok (.lload_n 3, 1) := by decide +kernel
theorem dX8_least_157 : decode cX8_least 157 = .ok (.lreturn, 1) := by decide +kernel
set_option maxRecDepth 20000 in
theorem ggX8_countsRow_X8_digits : GoodIn wsX8_countsRow wsX8_digits := goodIn_r _ [7, 8, 9, 10, 6, 11] (by decide +kernel) (by decide +kernel)
set_option maxRecDepth 20000 in
theorem gX8_countsRow_X8_digits : GoodIn wsX8_countsRow (va_wsS RX8 46 yX8_digits wsX8_digits) := goodIn_app (goodIn_of _ (by decide +kernel)) ggX8_countsRow_X8_digits
set_option maxRecDepth 20000 in
theorem ggX8_countsRow_X8_digitAt : GoodIn wsX8_countsRow wsX8_digitAt := goodIn_r _ [14, 8] (by decide +kernel) (by decide +kernel)
set_option maxRecDepth 20000 in
theorem gX8_countsRow_X8_digitAt : GoodIn wsX8_countsRow (va_wsS RX8 75 yX8_digitAt wsX8_digitAt) := goodIn_app (goodIn_of _ (by decide +kernel)) ggX8_countsRow_X8_digitAt
theorem dX8_countsRow_0 : decode cX8_countsRow 0 = .ok (.iload_n 1, 1) := by decide +kernel
theorem dX8_countsRow_1 : decode cX8_countsRow 1 = .ok (.i2l, 1) := by decide +kernel
theorem dX8_countsRow_2 : decode cX8_countsRow 2 = .ok (.bipush 6, 2) := by decide +kernel
theorem dX8_countsRow_4 : decode cX8_countsRow 4 = .ok (.invokestatic 46, 3) := by decide +kernel
theorem dX8_countsRow_7 : decode cX8_countsRow 7 = .ok (.istore_n 3, 1) := by decide +kernel
theorem dX8_countsRow_8 : decode cX8_countsRow 8 = .ok (.iconst 0, 1) := by decide +kernel
theorem dX8_countsRow_9 : decode cX8_countsRow 9 = .ok (.istore 4, 2) := by decide +kernel
theorem dX8_countsRow_11 : decode cX8_countsRow 11 = .ok (.iload 4, 2) := by decide +kernel
theorem dX8_countsRow_13 : decode cX8_countsRow 13 = .ok (.bipush 12, 2) := by decide +kernel
theorem dX8_countsRow_15 : decode cX8_countsRow 15 = .ok (.if_icmp .gt 26, 3) := by decide +kernel
theorem dX8_countsRow_18 : decode cX8_countsRow 18 = .ok (.aload_n 0, 1) := by decide +kernel
theorem dX8_countsRow_19 : decode cX8_countsRow 19 = .ok (.getfield 25, 3) := by decide +kernel
theorem dX8_countsRow_22 : decode cX8_countsRow 22 = .ok (.iload 4, 2) := by decide +kernel
theorem dX8_countsRow_24 : decode cX8_countsRow 24 = .ok (.iload 4, 2) := by decide +kernel
theorem dX8_countsRow_26 : decode cX8_countsRow 26 = .ok (.ifCond .ne 7, 3) := by decide +kernel
theorem dX8_countsRow_29 : decode cX8_countsRow 29 = .ok (.iconst 1, 1) := by decide +kernel
theorem dX8_countsRow_30 : decode cX8_countsRow 30 = .ok (.goto 4, 3) := by decide +kernel
theorem dX8_countsRow_33 : decode cX8_countsRow 33 = .ok (.iconst 0, 1) := by decide +kernel
theorem dX8_countsRow_34 : decode cX8_countsRow 34 = .ok (.iastore, 1) := by decide +kernel
theorem dX8_countsRow_35 : decode cX8_countsRow 35 = .ok (.iinc 4 1, 3) := by decide +kernel
theorem dX8_countsRow_38 : decode cX8_countsRow 38 = .ok (.goto (-27), 3) := by decide +kernel
theorem dX8_countsRow_41 : decode cX8_countsRow 41 = .ok (.iconst 0, 1) := by decide +kernel
theorem dX8_countsRow_42 : decode cX8_countsRow 42 = .ok (.istore 4, 2) := by decide +kernel
theorem dX8_countsRow_44 : decode cX8_countsRow 44 = .ok (.iload 4, 2) := by decide +kernel
theorem dX8_countsRow_46 : decode cX8_countsRow 46 = .ok (.iload_n 3, 1) := by decide +kernel
theorem dX8_countsRow_47 : decode cX8_countsRow 47 = .ok (.if_icmp .ge 123, 3) := by decide +kernel
theorem dX8_countsRow_50 : decode cX8_countsRow 50 = .ok (.iload_n 1, 1) := by decide +kernel
theorem dX8_countsRow_51 : decode cX8_countsRow 51 = .ok (.i2l, 1) := by decide +kernel
theorem dX8_countsRow_52 : decode cX8_countsRow 52 = .ok (.iload_n 3, 1) := by decide +kernel
theorem dX8_countsRow_53 : decode cX8_countsRow 53 = .ok (.iload 4, 2) := by decide +kernel
theorem dX8_countsRow_55 : decode cX8_countsRow 55 = .ok (.invokestatic 75, 3) := by decide +kernel
theorem dX8_countsRow_58 : decode cX8_countsRow 58 = .ok (.istore 5, 2) := by decide +kernel
theorem dX8_countsRow_60 : decode cX8_countsRow 60 = .ok (.iconst 0, 1) := by decide +kernel
theorem dX8_countsRow_61 : decode cX8_countsRow 61 = .ok (.istore 6, 2) := by decide +kernel
theorem dX8_countsRow_63 : decode cX8_countsRow 63 = .ok (.iload 6, 2) := by decide +kernel
theorem dX8_countsRow_65 : decode cX8_countsRow 65 = .ok (.iload_n 2, 1) := by decide +kernel
theorem dX8_countsRow_66 : decode cX8_countsRow 66 = .ok (.if_icmp .gt 31, 3) := by decide +kernel
theorem dX8_countsRow_69 : decode cX8_countsRow 69 = .ok (.aload_n 0, 1) := by decide +kernel
theorem dX8_countsRow_70 : decode cX8_countsRow 70 = .ok (.getfield 28, 3) := by decide +kernel
theorem dX8_countsRow_73 : decode cX8_countsRow 73 = .ok (.iload 6, 2) := by decide +kernel
theorem dX8_countsRow_75 : decode cX8_countsRow 75 = .ok (.aload_n 0, 1) := by decide +kernel
theorem dX8_countsRow_76 : decode cX8_countsRow 76 = .ok (.getfield 25, 3) := by decide +kernel
theorem dX8_countsRow_79 : decode cX8_countsRow 79 = .ok (.iload 6, 2) := by decide +kernel
theorem dX8_countsRow_81 : decode cX8_countsRow 81 = .ok (.iaload, 1) := by decide +kernel
theorem dX8_countsRow_82 : decode cX8_countsRow 82 = .ok (.iastore, 1) := by decide +kernel
theorem dX8_countsRow_83 : decode cX8_countsRow 83 = .ok (.aload_n 0, 1) := by decide +kernel
theorem dX8_countsRow_84 : decode cX8_countsRow 84 = .ok (.getfield 25, 3) := by decide +kernel
theorem dX8_countsRow_87 : decode cX8_countsRow 87 = .ok (.iload 6, 2) := by decide +kernel
theorem dX8_countsRow_89 : decode cX8_countsRow 89 = .ok (.iconst 0, 1) := by decide +kernel
theorem dX8_countsRow_90 : decode cX8_countsRow 90 = .ok (.iastore, 1) := by decide +kernel
theorem dX8_countsRow_91 : decode cX8_countsRow 91 = .ok (.iinc 6 1, 3) := by decide +kernel
theorem dX8_countsRow_94 : decode cX8_countsRow 94 = .ok (.goto (-31), 3) := by decide +kernel
theorem dX8_countsRow_97 : decode cX8_countsRow 97 = .ok (.iconst 0, 1) := by decide +kernel
theorem dX8_countsRow_98 : decode cX8_countsRow 98 = .ok (.istore 6, 2) := by decide +kernel
theorem dX8_countsRow_100 : decode cX8_countsRow 100 = .ok (.iload 6, 2) := by decide +kernel
theorem dX8_countsRow_102 : decode cX8_countsRow 102 = .ok (.iload_n 2, 1) := by decide +kernel
theorem dX8_countsRow_103 : decode cX8_countsRow 103 = .ok (.if_icmp .gt 61, 3) := by decide +kernel
theorem dX8_countsRow_106 : decode cX8_countsRow 106 = .ok (.iconst 0, 1) := by decide +kernel
theorem dX8_countsRow_107 : decode cX8_countsRow 107 = .ok (.istore 7, 2) := by decide +kernel
theorem dX8_countsRow_109 : decode cX8_countsRow 109 = .ok (.iload 7, 2) := by decide +kernel
theorem dX8_countsRow_111 : decode cX8_countsRow 111 = .ok (.iload 6, 2) := by decide +kernel
theorem dX8_countsRow_113 : decode cX8_countsRow 113 = .ok (.iadd, 1) := by decide +kernel
theorem dX8_countsRow_114 : decode cX8_countsRow 114 = .ok (.iload_n 2, 1) := by decide +kernel
theorem dX8_countsRow_115 : decode cX8_countsRow 115 = .ok (.if_icmp .gt 43, 3) := by decide +kernel
theorem dX8_countsRow_118 : decode cX8_countsRow 118 = .ok (.aload_n 0, 1) := by decide +kernel
theorem dX8_countsRow_119 : decode cX8_countsRow 119 = .ok (.getfield 25, 3) := by decide +kernel
theorem dX8_countsRow_122 : decode cX8_countsRow 122 = .ok (.iload 7, 2) := by decide +kernel
theorem dX8_countsRow_124 : decode cX8_countsRow 124 = .ok (.iload 6, 2) := by decide +kernel
theorem dX8_countsRow_126 : decode cX8_countsRow 126 = .ok (.iadd, 1) := by decide +kernel
theorem dX8_countsRow_127 : decode cX8_countsRow 127 = .ok (.dup2, 1) := by decide +kernel
theorem dX8_countsRow_128 : decode cX8_countsRow 128 = .ok (.iaload, 1) := by decide +kernel
theorem dX8_countsRow_129 : decode cX8_countsRow 129 = .ok (.aload_n 0, 1) := by decide +kernel
theorem dX8_countsRow_130 : decode cX8_countsRow 130 = .ok (.getfield 28, 3) := by decide +kernel
theorem dX8_countsRow_133 : decode cX8_countsRow 133 = .ok (.iload 6, 2) := by decide +kernel
theorem dX8_countsRow_135 : decode cX8_countsRow 135 = .ok (.iaload, 1) := by decide +kernel
theorem dX8_countsRow_136 : decode cX8_countsRow 136 = .ok (.aload_n 0, 1) := by decide +kernel
theorem dX8_countsRow_137 : decode cX8_countsRow 137 = .ok (.getfield 22, 3) := by decide +kernel
theorem dX8_countsRow_140 : decode cX8_countsRow 140 = .ok (.bipush 13, 2) := by decide +kernel
theorem dX8_countsRow_142 : decode cX8_countsRow 142 = .ok (.iload 5, 2) := by decide +kernel
theorem dX8_countsRow_144 : decode cX8_countsRow 144 = .ok (.imul, 1) := by decide +kernel
theorem dX8_countsRow_145 : decode cX8_countsRow 145 = .ok (.iload 7, 2) := by decide +kernel
theorem dX8_countsRow_147 : decode cX8_countsRow 147 = .ok (.iadd, 1) := by decide +kernel
theorem dX8_countsRow_148 : decode cX8_countsRow 148 = .ok (.iaload, 1) := by decide +kernel
theorem dX8_countsRow_149 : decode cX8_countsRow 149 = .ok (.imul, 1) := by decide +kernel
theorem dX8_countsRow_150 : decode cX8_countsRow 150 = .ok (.iadd, 1) := by decide +kernel
theorem dX8_countsRow_151 : decode cX8_countsRow 151 = .ok (.iastore, 1) := by decide +kernel
theorem dX8_countsRow_152 : decode cX8_countsRow 152 = .ok (.iinc 7 1, 3) := by decide +kernel
theorem dX8_countsRow_155 : decode cX8_countsRow 155 = .ok (.goto (-46), 3) := by decide +kernel
theorem dX8_countsRow_158 : decode cX8_countsRow 158 = .ok (.iinc 6 1, 3) := by decide +kernel
theorem dX8_countsRow_161 : decode cX8_countsRow 161 = .ok (.goto (-61), 3) := by decide +kernel
theorem dX8_countsRow_164 : decode cX8_countsRow 164 = .ok (.iinc 4 1, 3) := by decide +kernel
theorem dX8_countsRow_167 : decode cX8_countsRow 167 = .ok (.goto (-123), 3) := by decide +kernel
theorem dX8_countsRow_170 : decode cX8_countsRow 170 = .ok (.return_, 1) := by decide +kernel
set_option maxRecDepth 20000 in
theorem ggX8_countsSigns_X8_countsRow : GoodIn wsX8_countsSigns wsX8_countsRow := goodIn_r _ [8, 3, 9, 1, 10, 11, 7, 12, 13, 14, 15, 16, 17, 18, 19, 20, 21, 22, 23, 24, 25, 26, 27, 28, 29, 30, 31, 32, 33] (by decide +kernel) (by decide +kernel)
set_option maxRecDepth 20000 in
theorem gX8_countsSigns_X8_countsRow : GoodIn wsX8_countsSigns (wsV RX8 101 RX8 yX8_countsRow wsX8_countsRow) := goodIn_app (goodIn_of _ (by decide +kernel)) ggX8_countsSigns_X8_countsRow
theorem dX8_countsSigns_0 : decode cX8_countsSigns 0 = .ok (.iconst 0, 1) := by decide +kernel
theorem dX8_countsSigns_1 : decode cX8_countsSigns 1 = .ok (.istore_n 2, 1) := by decide +kernel
theorem dX8_countsSigns_2 : decode cX8_countsSigns 2 = .ok (.iload_n 2, 1) := by decide +kernel
theorem dX8_countsSigns_3 : decode cX8_countsSigns 3 = .ok (.bipush 78, 2) := by decide +kernel
theorem dX8_countsSigns_5 : decode cX8_countsSigns 5 = .ok (.if_icmp .ge 16, 3) := by decide +kernel
theorem dX8_countsSigns_8 : decode cX8_countsSigns 8 = .ok (.aload_n 0, 1) := by decide +kernel
theorem dX8_countsSigns_9 : decode cX8_countsSigns 9 = .ok (.getfield 22, 3) := by decide +kernel
theorem dX8_countsSigns_12 : decode cX8_countsSigns 12 = .ok (.iload_n 2, 1) := by decide +kernel
theorem dX8_countsSigns_13 : decode cX8_countsSigns 13 = .ok (.iconst 0, 1) := by decide +kernel
theorem dX8_countsSigns_14 : decode cX8_countsSigns 14 = .ok (.iastore, 1) := by decide +kernel
theorem dX8_countsSigns_15 : decode cX8_countsSigns 15 = .ok (.iinc 2 1, 3) := by decide +kernel
theorem dX8_countsSigns_18 : decode cX8_countsSigns 18 = .ok (.goto (-16), 3) := by decide +kernel
theorem dX8_countsSigns_21 : decode cX8_countsSigns 21 = .ok (.iconst 1, 1) := by decide +kernel
theorem dX8_countsSigns_22 : decode cX8_countsSigns 22 = .ok (.istore_n 2, 1) := by decide +kernel
theorem dX8_countsSigns_23 : decode cX8_countsSigns 23 = .ok (.iload_n 2, 1) := by decide +kernel
theorem dX8_countsSigns_24 : decode cX8_countsSigns 24 = .ok (.iload_n 1, 1) := by decide +kernel
theorem dX8_countsSigns_25 : decode cX8_countsSigns 25 = .ok (.if_icmp .gt 71, 3) := by decide +kernel
theorem dX8_countsSigns_28 : decode cX8_countsSigns 28 = .ok (.iconst 0, 1) := by decide +kernel
theorem dX8_countsSigns_29 : decode cX8_countsSigns 29 = .ok (.istore_n 3, 1) := by decide +kernel
theorem dX8_countsSigns_30 : decode cX8_countsSigns 30 = .ok (.iload_n 3, 1) := by decide +kernel
theorem dX8_countsSigns_31 : decode cX8_countsSigns 31 = .ok (.bipush 18, 2) := by decide +kernel
theorem dX8_countsSigns_33 : decode cX8_countsSigns 33 = .ok (.if_icmp .ge 57, 3) := by decide +kernel
theorem dX8_countsSigns_36 : decode cX8_countsSigns 36 = .ok (.aload_n 0, 1) := by decide +kernel
theorem dX8_countsSigns_37 : decode cX8_countsSigns 37 = .ok (.getfield 7, 3) := by decide +kernel
theorem dX8_countsSigns_40 : decode cX8_countsSigns 40 = .ok (.iload_n 3, 1) := by decide +kernel
theorem dX8_countsSigns_41 : decode cX8_countsSigns 41 = .ok (.iaload, 1) := by decide +kernel
theorem dX8_countsSigns_42 : decode cX8_countsSigns 42 = .ok (.bipush (-9), 2) := by decide +kernel
theorem dX8_countsSigns_44 : decode cX8_countsSigns 44 = .ok (.if_icmp .eq 40, 3) := by decide +kernel
theorem dX8_countsSigns_47 : decode cX8_countsSigns 47 = .ok (.aload_n 0, 1) := by decide +kernel
theorem dX8_countsSigns_48 : decode cX8_countsSigns 48 = .ok (.aload_n 0, 1) := by decide +kernel
theorem dX8_countsSigns_49 : decode cX8_countsSigns 49 = .ok (.getfield 7, 3) := by decide +kernel
theorem dX8_countsSigns_52 : decode cX8_countsSigns 52 = .ok (.iload_n 3, 1) := by decide +kernel
theorem dX8_countsSigns_53 : decode cX8_countsSigns 53 = .ok (.iaload, 1) := by decide +kernel
theorem dX8_countsSigns_54 : decode cX8_countsSigns 54 = .ok (.iload_n 2, 1) := by decide +kernel
theorem dX8_countsSigns_55 : decode cX8_countsSigns 55 = .ok (.iconst 1, 1) := by decide +kernel
theorem dX8_countsSigns_56 : decode cX8_countsSigns 56 = .ok (.isub, 1) := by decide +kernel
theorem dX8_countsSigns_57 : decode cX8_countsSigns 57 = .ok (.invokevirtual 101, 3) := by decide +kernel
theorem dX8_countsSigns_60 : decode cX8_countsSigns 60 = .ok (.aload_n 0, 1) := by decide +kernel
theorem dX8_countsSigns_61 : decode cX8_countsSigns 61 = .ok (.getfield 22, 3) := by decide +kernel
theorem dX8_countsSigns_64 : decode cX8_countsSigns 64 = .ok (.bipush 13, 2) := by decide +kernel
theorem dX8_countsSigns_66 : decode cX8_countsSigns 66 = .ok (.iload_n 3, 1) := by decide +kernel
theorem dX8_countsSigns_67 : decode cX8_countsSigns 67 = .ok (.iconst 3, 1) := by decide +kernel
theorem dX8_countsSigns_68 : decode cX8_countsSigns 68 = .ok (.idiv, 1) := by decide +kernel
theorem dX8_countsSigns_69 : decode cX8_countsSigns 69 = .ok (.imul, 1) := by decide +kernel
theorem dX8_countsSigns_70 : decode cX8_countsSigns 70 = .ok (.iload_n 2, 1) := by decide +kernel
theorem dX8_countsSigns_71 : decode cX8_countsSigns 71 = .ok (.iadd, 1) := by decide +kernel
theorem dX8_countsSigns_72 : decode cX8_countsSigns 72 = .ok (.dup2, 1) := by decide +kernel
theorem dX8_countsSigns_73 : decode cX8_countsSigns 73 = .ok (.iaload, 1) := by decide +kernel
theorem dX8_countsSigns_74 : decode cX8_countsSigns 74 = .ok (.aload_n 0, 1) := by decide +kernel
theorem dX8_countsSigns_75 : decode cX8_countsSigns 75 = .ok (.getfield 25, 3) := by decide +kernel
theorem dX8_countsSigns_78 : decode cX8_countsSigns 78 = .ok (.iload_n 2, 1) := by decide +kernel
theorem dX8_countsSigns_79 : decode cX8_countsSigns 79 = .ok (.iconst 1, 1) := by decide +kernel
theorem dX8_countsSigns_80 : decode cX8_countsSigns 80 = .ok (.isub, 1) := by decide +kernel
theorem dX8_countsSigns_81 : decode cX8_countsSigns 81 = .ok (.iaload, 1) := by decide +kernel
theorem dX8_countsSigns_82 : decode cX8_countsSigns 82 = .ok (.iadd, 1) := by decide +kernel
theorem dX8_countsSigns_83 : decode cX8_countsSigns 83 = .ok (.iastore, 1) := by decide +kernel
theorem dX8_countsSigns_84 : decode cX8_countsSigns 84 = .ok (.iinc 3 1, 3) := by decide +kernel
theorem dX8_countsSigns_87 : decode cX8_countsSigns 87 = .ok (.goto (-57), 3) := by decide +kernel
theorem dX8_countsSigns_90 : decode cX8_countsSigns 90 = .ok (.iinc 2 1, 3) := by decide +kernel
theorem dX8_countsSigns_93 : decode cX8_countsSigns 93 = .ok (.goto (-70), 3) := by decide +kernel
theorem dX8_countsSigns_96 : decode cX8_countsSigns 96 = .ok (.return_, 1) := by decide +kernel
set_option maxRecDepth 20000 in
theorem ggX8_words_X8_isRow : GoodIn wsX8_words wsX8_isRow := goodIn_r _ [5, 6, 7, 4, 8, 9, 10, 11, 12] (by decide +kernel) (by decide +kernel)
set_option maxRecDepth 20000 in
theorem gX8_words_X8_isRow : GoodIn wsX8_words (va_wsS RX8 61 yX8_isRow wsX8_isRow) := goodIn_app (goodIn_of _ (by decide +kernel)) ggX8_words_X8_isRow
set_option maxRecDepth 20000 in
theorem ggX8_words_X8_within : GoodIn wsX8_words wsX8_within := goodIn_r _ [12] (by decide +kernel) (by decide +kernel)
set_option maxRecDepth 20000 in
theorem gX8_words_X8_within : GoodIn wsX8_words (va_wsS RX8 40 yX8_within wsX8_within) := goodIn_app (goodIn_of _ (by decide +kernel)) ggX8_words_X8_within
set_option maxRecDepth 20000 in
theorem ggX8_words_X8_countsSigns : GoodIn wsX8_words wsX8_countsSigns := goodIn_r _ [16, 17, 18, 1, 19, 20, 21, 4, 22, 23, 6, 7, 8, 9, 10, 11, 12, 24, 25, 26, 27, 28, 29, 30, 31, 32, 33, 34, 35, 36, 37, 38, 39, 40] (by decide +kernel) (by decide +kernel)
set_option maxRecDepth 20000 in
theorem gX8_words_X8_countsSigns : GoodIn wsX8_words (wsV RX8 105 RX8 yX8_countsSigns wsX8_countsSigns) := goodIn_app (goodIn_of _ (by decide +kernel)) ggX8_words_X8_countsSigns
set_option maxRecDepth 20000 in
theorem ggX8_words_X8_countsRow : GoodIn wsX8_words wsX8_countsRow := goodIn_r _ [22, 1, 23, 17, 6, 7, 4, 8, 9, 10, 11, 12, 24, 25, 26, 27, 28, 29, 30, 31, 32, 33, 34, 35, 36, 37, 38, 39, 40] (by decide +kernel) (by decide +kernel)
set_option maxRecDepth 20000 in
theorem gX8_words_X8_countsRow : GoodIn wsX8_words (wsV RX8 101 RX8 yX8_countsRow wsX8_countsRow) := goodIn_app (goodIn_of _ (by decide +kernel)) ggX8_words_X8_countsRow
theorem dX8_words_0 : decode cX8_words 0 = .ok (.iload_n 1, 1) := by decide +kernel
theorem dX8_words_1 : decode cX8_words 1 = .ok (.bipush 9, 2) := by decide +kernel
theorem dX8_words_3 : decode cX8_words 3 = .ok (.invokestatic 61, 3) := by decide +kernel
theorem dX8_words_6 : decode cX8_words 6 = .ok (.ifCond .eq 13, 3) := by decide +kernel
theorem dX8_words_9 : decode cX8_words 9 = .ok (.iload_n 2, 1) := by decide +kernel
theorem dX8_words_10 : decode cX8_words 10 = .ok (.iconst 0, 1) := by decide +kernel
theorem dX8_words_11 : decode cX8_words 11 = .ok (.bipush 12, 2) := by decide +kernel
theorem dX8_words_13 : decode cX8_words 13 = .ok (.invokestatic 40, 3) := by decide +kernel
theorem dX8_words_16 : decode cX8_words 16 = .ok (.ifCond .ne 6, 3) := by decide +kernel
theorem dX8_words_19 : decode cX8_words 19 = .ok (.bipush (-2), 2) := by decide +kernel
theorem dX8_words_21 : decode cX8_words 21 = .ok (.ireturn, 1) := by decide +kernel
theorem dX8_words_22 : decode cX8_words 22 = .ok (.aload_n 0, 1) := by decide +kernel
theorem dX8_words_23 : decode cX8_words 23 = .ok (.iload_n 2, 1) := by decide +kernel
theorem dX8_words_24 : decode cX8_words 24 = .ok (.invokevirtual 105, 3) := by decide +kernel
theorem dX8_words_27 : decode cX8_words 27 = .ok (.aload_n 0, 1) := by decide +kernel
theorem dX8_words_28 : decode cX8_words 28 = .ok (.iload_n 1, 1) := by decide +kernel
theorem dX8_words_29 : decode cX8_words 29 = .ok (.iload_n 2, 1) := by decide +kernel
theorem dX8_words_30 : decode cX8_words 30 = .ok (.invokevirtual 101, 3) := by decide +kernel
theorem dX8_words_33 : decode cX8_words 33 = .ok (.aload_n 0, 1) := by decide +kernel
theorem dX8_words_34 : decode cX8_words 34 = .ok (.getfield 25, 3) := by decide +kernel
theorem dX8_words_37 : decode cX8_words 37 = .ok (.iload_n 2, 1) := by decide +kernel
theorem dX8_words_38 : decode cX8_words 38 = .ok (.iaload, 1) := by decide +kernel
theorem dX8_words_39 : decode cX8_words 39 = .ok (.ireturn, 1) := by decide +kernel
set_option maxRecDepth 20000 in
theorem ggX8_is_X8_readMany : GoodIn wsX8_is wsX8_readMany := goodIn_r _ [6, 1, 7, 8, 9, 5, 10, 11, 12, 13, 14, 15, 16, 17, 18, 19, 20, 21, 22, 23, 24, 25, 26, 27, 28, 29, 30, 31, 32, 33, 34, 35, 36, 37, 38, 39, 40, 41, 42, 43, 44] (by decide +kernel) (by decide +kernel)
set_option maxRecDepth 20000 in
theorem gX8_is_X8_readMany : GoodIn wsX8_is (wsV RX8 86 RX8 yX8_readMany wsX8_readMany) := goodIn_app (goodIn_of _ (by decide +kernel)) ggX8_is_X8_readMany
theorem dX8_is_0 : decode cX8_is 0 = .ok (.aload_n 0, 1) := by decide +kernel
theorem dX8_is_1 : decode cX8_is 1 = .ok (.iload_n 1, 1) := by decide +kernel
theorem dX8_is_2 : decode cX8_is 2 = .ok (.lload_n 2, 1) := by decide +kernel
theorem dX8_is_3 : decode cX8_is 3 = .ok (.iload 4, 2) := by decide +kernel
theorem dX8_is_5 : decode cX8_is 5 = .ok (.invokevirtual 86, 3) := by decide +kernel
theorem dX8_is_8 : decode cX8_is 8 = .ok (.istore 6, 2) := by decide +kernel
theorem dX8_is_10 : decode cX8_is 10 = .ok (.iload 6, 2) := by decide +kernel
theorem dX8_is_12 : decode cX8_is 12 = .ok (.iload 4, 2) := by decide +kernel
theorem dX8_is_14 : decode cX8_is 14 = .ok (.if_icmp .ne 20, 3) := by decide +kernel
theorem dX8_is_17 : decode cX8_is 17 = .ok (.iload 5, 2) := by decide +kernel
theorem dX8_is_19 : decode cX8_is 19 = .ok (.iconst 1, 1) := by decide +kernel
theorem dX8_is_20 : decode cX8_is 20 = .ok (.if_icmp .eq 10, 3) := by decide +kernel
theorem dX8_is_23 : decode cX8_is 23 = .ok (.aload_n 0, 1) := by decide +kernel
theorem dX8_is_24 : decode cX8_is 24 = .ok (.getfield 72, 3) := by decide +kernel
theorem dX8_is_27 : decode cX8_is 27 = .ok (.ifCond .ne 7, 3) := by decide +kernel
theorem dX8_is_30 : decode cX8_is 30 = .ok (.iconst 1, 1) := by decide +kernel
theorem dX8_is_31 : decode cX8_is 31 = .ok (.goto 4, 3) := by decide +kernel
theorem dX8_is_34 : decode cX8_is 34 = .ok (.iconst 0, 1) := by decide +kernel
theorem dX8_is_35 : decode cX8_is 35 = .ok (.ireturn, 1) := by decide +kernel
theorem dX8_lettersBy_0 : decode cX8_lettersBy 0 = .ok (.lconst 0, 1) := by decide +kernel
theorem dX8_lettersBy_1 : decode cX8_lettersBy 1 = .ok (.lstore_n 2, 1) := by decide +kernel
theorem dX8_lettersBy_2 : decode cX8_lettersBy 2 = .ok (.lconst 1, 1) := by decide +kernel
theorem dX8_lettersBy_3 : decode cX8_lettersBy 3 = .ok (.lstore 4, 2) := by decide +kernel
theorem dX8_lettersBy_5 : decode cX8_lettersBy 5 = .ok (.iload_n 0, 1) := by decide +kernel
theorem dX8_lettersBy_6 : decode cX8_lettersBy 6 = .ok (.istore 6, 2) := by decide +kernel
theorem dX8_lettersBy_8 : decode cX8_lettersBy 8 = .ok (.iconst 0, 1) := by decide +kernel
theorem dX8_lettersBy_9 : decode cX8_lettersBy 9 = .ok (.istore 7, 2) := by decide +kernel
theorem dX8_lettersBy_11 : decode cX8_lettersBy 11 = .ok (.iload 7, 2) := by decide +kernel
theorem dX8_lettersBy_13 : decode cX8_lettersBy 13 = .ok (.iload_n 1, 1) := by decide +kernel
theorem dX8_lettersBy_14 : decode cX8_lettersBy 14 = .ok (.if_icmp .ge 36, 3) := by decide +kernel
theorem dX8_lettersBy_17 : decode cX8_lettersBy 17 = .ok (.lload_n 2, 1) := by decide +kernel
theorem dX8_lettersBy_18 : decode cX8_lettersBy 18 = .ok (.lload 4, 2) := by decide +kernel
theorem dX8_lettersBy_20 : decode cX8_lettersBy 20 = .ok (.iload 6, 2) := by decide +kernel
theorem dX8_lettersBy_22 : decode cX8_lettersBy 22 = .ok (.iconst 3, 1) := by decide +kernel
theorem dX8_lettersBy_23 : decode cX8_lettersBy 23 = .ok (.irem, 1) := by decide +kernel
theorem dX8_lettersBy_24 : decode cX8_lettersBy 24 = .ok (.iconst 1, 1) := by decide +kernel
theorem dX8_lettersBy_25 : decode cX8_lettersBy 25 = .ok (.iadd, 1) := by decide +kernel
theorem dX8_lettersBy_26 : decode cX8_lettersBy 26 = .ok (.i2l, 1) := by decide +kernel
theorem dX8_lettersBy_27 : decode cX8_lettersBy 27 = .ok (.lmul, 1) := by decide +kernel
theorem dX8_lettersBy_28 : decode cX8_lettersBy 28 = .ok (.ladd, 1) := by decide +kernel
theorem dX8_lettersBy_29 : decode cX8_lettersBy 29 = .ok (.lstore_n 2, 1) := by decide +kernel
theorem dX8_lettersBy_30 : decode cX8_lettersBy 30 = .ok (.iload 6, 2) := by decide +kernel
theorem dX8_lettersBy_32 : decode cX8_lettersBy 32 = .ok (.iconst 3, 1) := by decide +kernel
theorem dX8_lettersBy_33 : decode cX8_lettersBy 33 = .ok (.idiv, 1) := by decide +kernel
theorem dX8_lettersBy_34 : decode cX8_lettersBy 34 = .ok (.istore 6, 2) := by decide +kernel
theorem dX8_lettersBy_36 : decode cX8_lettersBy 36 = .ok (.lload 4, 2) := by decide +kernel
theorem dX8_lettersBy_38 : decode cX8_lettersBy 38 = .ok (.ldc2_w 44, 3) := by decide +kernel
theorem dX8_lettersBy_41 : decode cX8_lettersBy 41 = .ok (.lmul, 1) := by decide +kernel
theorem dX8_lettersBy_42 : decode cX8_lettersBy 42 = .ok (.lstore 4, 2) := by decide +kernel
theorem dX8_lettersBy_44 : decode cX8_lettersBy 44 = .ok (.iinc 7 1, 3) := by decide +kernel
theorem dX8_lettersBy_47 : decode cX8_lettersBy 47 = .ok (.goto (-36), 3) := by decide +kernel
theorem dX8_lettersBy_50 : decode cX8_lettersBy 50 = .ok (.lload_n 2, 1) := by decide +kernel
theorem dX8_lettersBy_51 : decode cX8_lettersBy 51 = .ok (.lreturn, 1) := by decide +kernel
set_option maxRecDepth 20000 in
theorem ggX8_parts_X8_isRow : GoodIn wsX8_parts wsX8_isRow := goodIn_r _ [6, 7, 8, 5, 9, 10, 11, 12, 13] (by decide +kernel) (by decide +kernel)
set_option maxRecDepth 20000 in
theorem gX8_parts_X8_isRow : GoodIn wsX8_parts (va_wsS RX8 61 yX8_isRow wsX8_isRow) := goodIn_app (goodIn_of _ (by decide +kernel)) ggX8_parts_X8_isRow
set_option maxRecDepth 20000 in
theorem ggX8_parts_X8_within : GoodIn wsX8_parts wsX8_within := goodIn_r _ [13] (by decide +kernel) (by decide +kernel)
set_option maxRecDepth 20000 in
theorem gX8_parts_X8_within : GoodIn wsX8_parts (va_wsS RX8 40 yX8_within wsX8_within) := goodIn_app (goodIn_of _ (by decide +kernel)) ggX8_parts_X8_within
set_option maxRecDepth 20000 in
theorem ggX8_parts_X8_lettersBy : GoodIn wsX8_parts wsX8_lettersBy := goodIn_r _ [16, 10] (by decide +kernel) (by decide +kernel)
set_option maxRecDepth 20000 in
theorem gX8_parts_X8_lettersBy : GoodIn wsX8_parts (va_wsS RX8 108 yX8_lettersBy wsX8_lettersBy) := goodIn_app (goodIn_of _ (by decide +kernel)) ggX8_parts_X8_lettersBy
set_option maxRecDepth 20000 in
theorem ggX8_parts_X8_is : GoodIn wsX8_parts wsX8_is := goodIn_r _ [20, 21, 22, 23, 24, 5, 25, 26, 27, 28, 29, 30, 7, 8, 9, 10, 11, 12, 13, 31, 32, 33, 34, 35, 36, 37, 38, 39, 40, 41, 42, 43, 44, 45, 46, 47, 48, 49, 50, 51, 52, 53, 54, 55, 56] (by decide +kernel) (by decide +kernel)
set_option maxRecDepth 20000 in
theorem gX8_parts_X8_is : GoodIn wsX8_parts (wsV RX8 112 RX8 yX8_is wsX8_is) := goodIn_app (goodIn_of _ (by decide +kernel)) ggX8_parts_X8_is
theorem dX8_parts_0 : decode cX8_parts 0 = .ok (.iload_n 1, 1) := by decide +kernel
theorem dX8_parts_1 : decode cX8_parts 1 = .ok (.bipush 9, 2) := by decide +kernel
theorem dX8_parts_3 : decode cX8_parts 3 = .ok (.invokestatic 61, 3) := by decide +kernel
theorem dX8_parts_6 : decode cX8_parts 6 = .ok (.ifCond .eq 21, 3) := by decide +kernel
theorem dX8_parts_9 : decode cX8_parts 9 = .ok (.iload_n 2, 1) := by decide +kernel
theorem dX8_parts_10 : decode cX8_parts 10 = .ok (.bipush 9, 2) := by decide +kernel
theorem dX8_parts_12 : decode cX8_parts 12 = .ok (.invokestatic 61, 3) := by decide +kernel
theorem dX8_parts_15 : decode cX8_parts 15 = .ok (.ifCond .eq 12, 3) := by decide +kernel
theorem dX8_parts_18 : decode cX8_parts 18 = .ok (.iload_n 3, 1) := by decide +kernel
theorem dX8_parts_19 : decode cX8_parts 19 = .ok (.iconst 0, 1) := by decide +kernel
theorem dX8_parts_20 : decode cX8_parts 20 = .ok (.iconst 1, 1) := by decide +kernel
theorem dX8_parts_21 : decode cX8_parts 21 = .ok (.invokestatic 40, 3) := by decide +kernel
theorem dX8_parts_24 : decode cX8_parts 24 = .ok (.ifCond .ne 7, 3) := by decide +kernel
theorem dX8_parts_27 : decode cX8_parts 27 = .ok (.ldc2_w 97, 3) := by decide +kernel
theorem dX8_parts_30 : decode cX8_parts 30 = .ok (.lreturn, 1) := by decide +kernel
theorem dX8_parts_31 : decode cX8_parts 31 = .ok (.iconst 1, 1) := by decide +kernel
theorem dX8_parts_32 : decode cX8_parts 32 = .ok (.istore 4, 2) := by decide +kernel
theorem dX8_parts_34 : decode cX8_parts 34 = .ok (.iconst 0, 1) := by decide +kernel
theorem dX8_parts_35 : decode cX8_parts 35 = .ok (.istore 5, 2) := by decide +kernel
theorem dX8_parts_37 : decode cX8_parts 37 = .ok (.iload 5, 2) := by decide +kernel
theorem dX8_parts_39 : decode cX8_parts 39 = .ok (.bipush 6, 2) := by decide +kernel
theorem dX8_parts_41 : decode cX8_parts 41 = .ok (.if_icmp .gt 66, 3) := by decide +kernel
theorem dX8_parts_44 : decode cX8_parts 44 = .ok (.iconst 0, 1) := by decide +kernel
theorem dX8_parts_45 : decode cX8_parts 45 = .ok (.istore 6, 2) := by decide +kernel
theorem dX8_parts_47 : decode cX8_parts 47 = .ok (.iload 6, 2) := by decide +kernel
theorem dX8_parts_49 : decode cX8_parts 49 = .ok (.iload 4, 2) := by decide +kernel
theorem dX8_parts_51 : decode cX8_parts 51 = .ok (.if_icmp .ge 44, 3) := by decide +kernel
theorem dX8_parts_54 : decode cX8_parts 54 = .ok (.iload 6, 2) := by decide +kernel
theorem dX8_parts_56 : decode cX8_parts 56 = .ok (.iload 5, 2) := by decide +kernel
theorem dX8_parts_58 : decode cX8_parts 58 = .ok (.invokestatic 108, 3) := by decide +kernel
theorem dX8_parts_61 : decode cX8_parts 61 = .ok (.lstore 7, 2) := by decide +kernel
theorem dX8_parts_63 : decode cX8_parts 63 = .ok (.aload_n 0, 1) := by decide +kernel
theorem dX8_parts_64 : decode cX8_parts 64 = .ok (.iload_n 1, 1) := by decide +kernel
theorem dX8_parts_65 : decode cX8_parts 65 = .ok (.lload 7, 2) := by decide +kernel
theorem dX8_parts_67 : decode cX8_parts 67 = .ok (.iload 5, 2) := by decide +kernel
theorem dX8_parts_69 : decode cX8_parts 69 = .ok (.iload_n 3, 1) := by decide +kernel
theorem dX8_parts_70 : decode cX8_parts 70 = .ok (.invokevirtual 112, 3) := by decide +kernel
theorem dX8_parts_73 : decode cX8_parts 73 = .ok (.aload_n 0, 1) := by decide +kernel
theorem dX8_parts_74 : decode cX8_parts 74 = .ok (.iload_n 2, 1) := by decide +kernel
theorem dX8_parts_75 : decode cX8_parts 75 = .ok (.lload 7, 2) := by decide +kernel
theorem dX8_parts_77 : decode cX8_parts 77 = .ok (.iload 5, 2) := by decide +kernel
theorem dX8_parts_79 : decode cX8_parts 79 = .ok (.iload_n 3, 1) := by decide +kernel
theorem dX8_parts_80 : decode cX8_parts 80 = .ok (.invokevirtual 112, 3) := by decide +kernel
theorem dX8_parts_83 : decode cX8_parts 83 = .ok (.if_icmp .eq 6, 3) := by decide +kernel
theorem dX8_parts_86 : decode cX8_parts 86 = .ok (.lload 7, 2) := by decide +kernel
theorem dX8_parts_88 : decode cX8_parts 88 = .ok (.lreturn, 1) := by decide +kernel
theorem dX8_parts_89 : decode cX8_parts 89 = .ok (.iinc 6 1, 3) := by decide +kernel
theorem dX8_parts_92 : decode cX8_parts 92 = .ok (.goto (-45), 3) := by decide +kernel
theorem dX8_parts_95 : decode cX8_parts 95 = .ok (.iload 4, 2) := by decide +kernel
theorem dX8_parts_97 : decode cX8_parts 97 = .ok (.iconst 3, 1) := by decide +kernel
theorem dX8_parts_98 : decode cX8_parts 98 = .ok (.imul, 1) := by decide +kernel
theorem dX8_parts_99 : decode cX8_parts 99 = .ok (.istore 4, 2) := by decide +kernel
theorem dX8_parts_101 : decode cX8_parts 101 = .ok (.iinc 5 1, 3) := by decide +kernel
theorem dX8_parts_104 : decode cX8_parts 104 = .ok (.goto (-67), 3) := by decide +kernel
theorem dX8_parts_107 : decode cX8_parts 107 = .ok (.ldc2_w 99, 3) := by decide +kernel
theorem dX8_parts_110 : decode cX8_parts 110 = .ok (.lreturn, 1) := by decide +kernel
set_option maxRecDepth 20000 in
theorem ggX8_comesFirst_X8_digits : GoodIn wsX8_comesFirst wsX8_digits := goodIn_r _ [5, 6, 7, 8, 4, 9] (by decide +kernel) (by decide +kernel)
set_option maxRecDepth 20000 in
theorem gX8_comesFirst_X8_digits : GoodIn wsX8_comesFirst (va_wsS RX8 46 yX8_digits wsX8_digits) := goodIn_app (goodIn_of _ (by decide +kernel)) ggX8_comesFirst_X8_digits
set_option maxRecDepth 20000 in
theorem ggX8_comesFirst_X8_digitAt : GoodIn wsX8_comesFirst wsX8_digitAt := goodIn_r _ [12, 6] (by decide +kernel) (by decide +kernel)
set_option maxRecDepth 20000 in
theorem gX8_comesFirst_X8_digitAt : GoodIn wsX8_comesFirst (va_wsS RX8 75 yX8_digitAt wsX8_digitAt) := goodIn_app (goodIn_of _ (by decide +kernel)) ggX8_comesFirst_X8_digitAt
theorem dX8_comesFirst_0 : decode cX8_comesFirst 0 = .ok (.iload_n 1, 1) := by decide +kernel
theorem dX8_comesFirst_1 : decode cX8_comesFirst 1 = .ok (.i2l, 1) := by decide +kernel
theorem dX8_comesFirst_2 : decode cX8_comesFirst 2 = .ok (.bipush 6, 2) := by decide +kernel
theorem dX8_comesFirst_4 : decode cX8_comesFirst 4 = .ok (.invokestatic 46, 3) := by decide +kernel
theorem dX8_comesFirst_7 : decode cX8_comesFirst 7 = .ok (.istore_n 2, 1) := by decide +kernel
theorem dX8_comesFirst_8 : decode cX8_comesFirst 8 = .ok (.iconst 0, 1) := by decide +kernel
theorem dX8_comesFirst_9 : decode cX8_comesFirst 9 = .ok (.istore_n 3, 1) := by decide +kernel
theorem dX8_comesFirst_10 : decode cX8_comesFirst 10 = .ok (.iconst 0, 1) := by decide +kernel
theorem dX8_comesFirst_11 : decode cX8_comesFirst 11 = .ok (.istore 4, 2) := by decide +kernel
theorem dX8_comesFirst_13 : decode cX8_comesFirst 13 = .ok (.iload 4, 2) := by decide +kernel
theorem dX8_comesFirst_15 : decode cX8_comesFirst 15 = .ok (.iload_n 2, 1) := by decide +kernel
theorem dX8_comesFirst_16 : decode cX8_comesFirst 16 = .ok (.if_icmp .ge 40, 3) := by decide +kernel
theorem dX8_comesFirst_19 : decode cX8_comesFirst 19 = .ok (.iload_n 1, 1) := by decide +kernel
theorem dX8_comesFirst_20 : decode cX8_comesFirst 20 = .ok (.i2l, 1) := by decide +kernel
theorem dX8_comesFirst_21 : decode cX8_comesFirst 21 = .ok (.iload_n 2, 1) := by decide +kernel
theorem dX8_comesFirst_22 : decode cX8_comesFirst 22 = .ok (.iload 4, 2) := by decide +kernel
theorem dX8_comesFirst_24 : decode cX8_comesFirst 24 = .ok (.invokestatic 75, 3) := by decide +kernel
theorem dX8_comesFirst_27 : decode cX8_comesFirst 27 = .ok (.istore 5, 2) := by decide +kernel
theorem dX8_comesFirst_29 : decode cX8_comesFirst 29 = .ok (.iload_n 3, 1) := by decide +kernel
theorem dX8_comesFirst_30 : decode cX8_comesFirst 30 = .ok (.iconst 1, 1) := by decide +kernel
theorem dX8_comesFirst_31 : decode cX8_comesFirst 31 = .ok (.iload 5, 2) := by decide +kernel
theorem dX8_comesFirst_33 : decode cX8_comesFirst 33 = .ok (.ishl, 1) := by decide +kernel
theorem dX8_comesFirst_34 : decode cX8_comesFirst 34 = .ok (.ior, 1) := by decide +kernel
theorem dX8_comesFirst_35 : decode cX8_comesFirst 35 = .ok (.istore_n 3, 1) := by decide +kernel
theorem dX8_comesFirst_36 : decode cX8_comesFirst 36 = .ok (.aload_n 0, 1) := by decide +kernel
theorem dX8_comesFirst_37 : decode cX8_comesFirst 37 = .ok (.getfield 19, 3) := by decide +kernel
theorem dX8_comesFirst_40 : decode cX8_comesFirst 40 = .ok (.iload 5, 2) := by decide +kernel
theorem dX8_comesFirst_42 : decode cX8_comesFirst 42 = .ok (.iaload, 1) := by decide +kernel
theorem dX8_comesFirst_43 : decode cX8_comesFirst 43 = .ok (.bipush (-9), 2) := by decide +kernel
theorem dX8_comesFirst_45 : decode cX8_comesFirst 45 = .ok (.if_icmp .ne 5, 3) := by decide +kernel
theorem dX8_comesFirst_48 : decode cX8_comesFirst 48 = .ok (.iload_n 3, 1) := by decide +kernel
theorem dX8_comesFirst_49 : decode cX8_comesFirst 49 = .ok (.ireturn, 1) := by decide +kernel
theorem dX8_comesFirst_50 : decode cX8_comesFirst 50 = .ok (.iinc 4 1, 3) := by decide +kernel
theorem dX8_comesFirst_53 : decode cX8_comesFirst 53 = .ok (.goto (-40), 3) := by decide +kernel
theorem dX8_comesFirst_56 : decode cX8_comesFirst 56 = .ok (.iload_n 3, 1) := by decide +kernel
theorem dX8_comesFirst_57 : decode cX8_comesFirst 57 = .ok (.ireturn, 1) := by decide +kernel
set_option maxRecDepth 20000 in
theorem ggX8_firsts_X8_isRow : GoodIn wsX8_firsts wsX8_isRow := goodIn_r _ [5, 6, 7, 4, 8, 9, 10, 11, 12] (by decide +kernel) (by decide +kernel)
set_option maxRecDepth 20000 in
theorem gX8_firsts_X8_isRow : GoodIn wsX8_firsts (va_wsS RX8 61 yX8_isRow wsX8_isRow) := goodIn_app (goodIn_of _ (by decide +kernel)) ggX8_firsts_X8_isRow
set_option maxRecDepth 20000 in
theorem ggX8_firsts_X8_findNorms : GoodIn wsX8_firsts wsX8_findNorms := goodIn_r _ [16, 17, 1, 18, 19, 20, 4, 21, 6, 7, 8, 9, 10, 11, 12, 22, 23, 24, 32, 33, 34, 35, 36, 37, 38, 39, 40, 41, 42, 43, 44, 45] (by decide +kernel) (by decide +kernel)
set_option maxRecDepth 20000 in
theorem gX8_firsts_X8_findNorms : GoodIn wsX8_firsts (wsV RX8 94 RX8 yX8_findNorms wsX8_findNorms) := goodIn_app (goodIn_of _ (by decide +kernel)) ggX8_firsts_X8_findNorms
set_option maxRecDepth 20000 in
theorem ggX8_firsts_X8_comesFirst : GoodIn wsX8_firsts wsX8_comesFirst := goodIn_r _ [28, 17, 6, 7, 4, 8, 9, 10, 11, 12, 22, 23, 24, 32, 33, 34, 35, 36, 37, 38, 39, 40, 41, 42, 43, 44, 45] (by decide +kernel) (by decide +kernel)
set_option maxRecDepth 20000 in
theorem gX8_firsts_X8_comesFirst : GoodIn wsX8_firsts (wsV RX8 116 RX8 yX8_comesFirst wsX8_comesFirst) := goodIn_app (goodIn_of _ (by decide +kernel)) ggX8_firsts_X8_comesFirst
set_option maxRecDepth 20000 in
theorem ggX8_firsts_X8_has : GoodIn wsX8_firsts wsX8_has := goodIn_r _ [31] (by decide +kernel) (by decide +kernel)
set_option maxRecDepth 20000 in
theorem gX8_firsts_X8_has : GoodIn wsX8_firsts (va_wsS RX8 119 yX8_has wsX8_has) := goodIn_app (goodIn_of _ (by decide +kernel)) ggX8_firsts_X8_has
theorem dX8_firsts_0 : decode cX8_firsts 0 = .ok (.iload_n 1, 1) := by decide +kernel
theorem dX8_firsts_1 : decode cX8_firsts 1 = .ok (.bipush 9, 2) := by decide +kernel
theorem dX8_firsts_3 : decode cX8_firsts 3 = .ok (.invokestatic 61, 3) := by decide +kernel
theorem dX8_firsts_6 : decode cX8_firsts 6 = .ok (.ifCond .ne 6, 3) := by decide +kernel
theorem dX8_firsts_9 : decode cX8_firsts 9 = .ok (.bipush (-2), 2) := by decide +kernel
theorem dX8_firsts_11 : decode cX8_firsts 11 = .ok (.ireturn, 1) := by decide +kernel
theorem dX8_firsts_12 : decode cX8_firsts 12 = .ok (.aload_n 0, 1) := by decide +kernel
theorem dX8_firsts_13 : decode cX8_firsts 13 = .ok (.invokevirtual 94, 3) := by decide +kernel
theorem dX8_firsts_16 : decode cX8_firsts 16 = .ok (.aload_n 0, 1) := by decide +kernel
theorem dX8_firsts_17 : decode cX8_firsts 17 = .ok (.iload_n 1, 1) := by decide +kernel
theorem dX8_firsts_18 : decode cX8_firsts 18 = .ok (.invokevirtual 116, 3) := by decide +kernel
theorem dX8_firsts_21 : decode cX8_firsts 21 = .ok (.istore_n 2, 1) := by decide +kernel
theorem dX8_firsts_22 : decode cX8_firsts 22 = .ok (.iconst (-1), 1) := by decide +kernel
theorem dX8_firsts_23 : decode cX8_firsts 23 = .ok (.istore_n 3, 1) := by decide +kernel
theorem dX8_firsts_24 : decode cX8_firsts 24 = .ok (.iload_n 3, 1) := by decide +kernel
theorem dX8_firsts_25 : decode cX8_firsts 25 = .ok (.iload_n 2, 1) := by decide +kernel
theorem dX8_firsts_26 : decode cX8_firsts 26 = .ok (.if_icmp .eq 65, 3) := by decide +kernel
theorem dX8_firsts_29 : decode cX8_firsts 29 = .ok (.iload_n 2, 1) := by decide +kernel
theorem dX8_firsts_30 : decode cX8_firsts 30 = .ok (.istore_n 3, 1) := by decide +kernel
theorem dX8_firsts_31 : decode cX8_firsts 31 = .ok (.iconst 0, 1) := by decide +kernel
theorem dX8_firsts_32 : decode cX8_firsts 32 = .ok (.istore 4, 2) := by decide +kernel
theorem dX8_firsts_34 : decode cX8_firsts 34 = .ok (.iload 4, 2) := by decide +kernel
theorem dX8_firsts_36 : decode cX8_firsts 36 = .ok (.bipush 18, 2) := by decide +kernel
theorem dX8_firsts_38 : decode cX8_firsts 38 = .ok (.if_icmp .ge 50, 3) := by decide +kernel
theorem dX8_firsts_41 : decode cX8_firsts 41 = .ok (.iload_n 2, 1) := by decide +kernel
theorem dX8_firsts_42 : decode cX8_firsts 42 = .ok (.iload_n 3, 1) := by decide +kernel
theorem dX8_firsts_43 : decode cX8_firsts 43 = .ok (.iload 4, 2) := by decide +kernel
theorem dX8_firsts_45 : decode cX8_firsts 45 = .ok (.iconst 3, 1) := by decide +kernel
theorem dX8_firsts_46 : decode cX8_firsts 46 = .ok (.idiv, 1) := by decide +kernel
theorem dX8_firsts_47 : decode cX8_firsts 47 = .ok (.invokestatic 119, 3) := by decide +kernel
theorem dX8_firsts_50 : decode cX8_firsts 50 = .ok (.ifCond .eq 29, 3) := by decide +kernel
theorem dX8_firsts_53 : decode cX8_firsts 53 = .ok (.aload_n 0, 1) := by decide +kernel
theorem dX8_firsts_54 : decode cX8_firsts 54 = .ok (.getfield 7, 3) := by decide +kernel
theorem dX8_firsts_57 : decode cX8_firsts 57 = .ok (.iload 4, 2) := by decide +kernel
theorem dX8_firsts_59 : decode cX8_firsts 59 = .ok (.iaload, 1) := by decide +kernel
theorem dX8_firsts_60 : decode cX8_firsts 60 = .ok (.bipush (-9), 2) := by decide +kernel
theorem dX8_firsts_62 : decode cX8_firsts 62 = .ok (.if_icmp .eq 17, 3) := by decide +kernel
theorem dX8_firsts_65 : decode cX8_firsts 65 = .ok (.aload_n 0, 1) := by decide +kernel
theorem dX8_firsts_66 : decode cX8_firsts 66 = .ok (.aload_n 0, 1) := by decide +kernel
theorem dX8_firsts_67 : decode cX8_firsts 67 = .ok (.getfield 7, 3) := by decide +kernel
theorem dX8_firsts_70 : decode cX8_firsts 70 = .ok (.iload 4, 2) := by decide +kernel
theorem dX8_firsts_72 : decode cX8_firsts 72 = .ok (.iaload, 1) := by decide +kernel
theorem dX8_firsts_73 : decode cX8_firsts 73 = .ok (.invokevirtual 116, 3) := by decide +kernel
theorem dX8_firsts_76 : decode cX8_firsts 76 = .ok (.goto 4, 3) := by decide +kernel
theorem dX8_firsts_79 : decode cX8_firsts 79 = .ok (.iconst 0, 1) := by decide +kernel
theorem dX8_firsts_80 : decode cX8_firsts 80 = .ok (.ior, 1) := by decide +kernel
theorem dX8_firsts_81 : decode cX8_firsts 81 = .ok (.istore_n 2, 1) := by decide +kernel
theorem dX8_firsts_82 : decode cX8_firsts 82 = .ok (.iinc 4 1, 3) := by decide +kernel
theorem dX8_firsts_85 : decode cX8_firsts 85 = .ok (.goto (-51), 3) := by decide +kernel
theorem dX8_firsts_88 : decode cX8_firsts 88 = .ok (.goto (-64), 3) := by decide +kernel
theorem dX8_firsts_91 : decode cX8_firsts 91 = .ok (.iload_n 2, 1) := by decide +kernel
theorem dX8_firsts_92 : decode cX8_firsts 92 = .ok (.ireturn, 1) := by decide +kernel
set_option maxRecDepth 20000 in
theorem ggX8_isClaim_X8_digits : GoodIn wsX8_isClaim wsX8_digits := goodIn_r _ [4, 5, 6, 7, 3, 8] (by decide +kernel) (by decide +kernel)
set_option maxRecDepth 20000 in
theorem gX8_isClaim_X8_digits : GoodIn wsX8_isClaim (va_wsS RX8 46 yX8_digits wsX8_digits) := goodIn_app (goodIn_of _ (by decide +kernel)) ggX8_isClaim_X8_digits
set_option maxRecDepth 20000 in
theorem ggX8_isClaim_X8_within : GoodIn wsX8_isClaim wsX8_within := goodIn_r _ [8] (by decide +kernel) (by decide +kernel)
set_option maxRecDepth 20000 in
theorem gX8_isClaim_X8_within : GoodIn wsX8_isClaim (va_wsS RX8 40 yX8_within wsX8_within) := goodIn_app (goodIn_of _ (by decide +kernel)) ggX8_isClaim_X8_within
theorem dX8_isClaim_0 : decode cX8_isClaim 0 = .ok (.iload_n 1, 1) := by decide +kernel
theorem dX8_isClaim_1 : decode cX8_isClaim 1 = .ok (.i2l, 1) := by decide +kernel
theorem dX8_isClaim_2 : decode cX8_isClaim 2 = .ok (.iload_n 0, 1) := by decide +kernel
theorem dX8_isClaim_3 : decode cX8_isClaim 3 = .ok (.invokestatic 46, 3) := by decide +kernel
theorem dX8_isClaim_6 : decode cX8_isClaim 6 = .ok (.istore_n 2, 1) := by decide +kernel
theorem dX8_isClaim_7 : decode cX8_isClaim 7 = .ok (.iload_n 2, 1) := by decide +kernel
theorem dX8_isClaim_8 : decode cX8_isClaim 8 = .ok (.iconst 1, 1) := by decide +kernel
theorem dX8_isClaim_9 : decode cX8_isClaim 9 = .ok (.iconst 3, 1) := by decide +kernel
theorem dX8_isClaim_10 : decode cX8_isClaim 10 = .ok (.invokestatic 40, 3) := by decide +kernel
theorem dX8_isClaim_13 : decode cX8_isClaim 13 = .ok (.ireturn, 1) := by decide +kernel
set_option maxRecDepth 20000 in
theorem ggX8_claim_X8_isSign : GoodIn wsX8_claim wsX8_isSign := goodIn_r _ [5, 6, 7, 4, 8] (by decide +kernel) (by decide +kernel)
set_option maxRecDepth 20000 in
theorem gX8_claim_X8_isSign : GoodIn wsX8_claim (va_wsS RX8 54 yX8_isSign wsX8_isSign) := goodIn_app (goodIn_of _ (by decide +kernel)) ggX8_claim_X8_isSign
set_option maxRecDepth 20000 in
theorem ggX8_claim_X8_isClaim : GoodIn wsX8_claim wsX8_isClaim := goodIn_r _ [11, 12, 13, 4, 14, 15, 6, 7, 8] (by decide +kernel) (by decide +kernel)
set_option maxRecDepth 20000 in
theorem gX8_claim_X8_isClaim : GoodIn wsX8_claim (va_wsS RX8 122 yX8_isClaim wsX8_isClaim) := goodIn_app (goodIn_of _ (by decide +kernel)) ggX8_claim_X8_isClaim
set_option maxRecDepth 20000 in
theorem ggX8_claim_X8_keeps : GoodIn wsX8_claim wsX8_keeps := goodIn_r _ [19, 20, 21, 1, 26, 27, 28, 29, 30, 31, 32, 33, 34, 35, 36, 37, 38, 39] (by decide +kernel) (by decide +kernel)
set_option maxRecDepth 20000 in
theorem gX8_claim_X8_keeps : GoodIn wsX8_claim (wsV RX8 65 RX8 yX8_keeps wsX8_keeps) := goodIn_app (goodIn_of _ (by decide +kernel)) ggX8_claim_X8_keeps
set_option maxRecDepth 20000 in
theorem ggX8_claim_X8_claimOf : GoodIn wsX8_claim wsX8_claimOf := goodIn_r _ [25, 1, 26, 27, 28, 29, 30, 31, 32, 33, 34, 35, 36, 37, 38, 39] (by decide +kernel) (by decide +kernel)
set_option maxRecDepth 20000 in
theorem gX8_claim_X8_claimOf : GoodIn wsX8_claim (wsV RX8 125 RX8 yX8_claimOf wsX8_claimOf) := goodIn_app (goodIn_of _ (by decide +kernel)) ggX8_claim_X8_claimOf
theorem dX8_claim_0 : decode cX8_claim 0 = .ok (.iload_n 1, 1) := by decide +kernel
theorem dX8_claim_1 : decode cX8_claim 1 = .ok (.invokestatic 54, 3) := by decide +kernel
theorem dX8_claim_4 : decode cX8_claim 4 = .ok (.ifCond .ne 5, 3) := by decide +kernel
theorem dX8_claim_7 : decode cX8_claim 7 = .ok (.iconst (-1), 1) := by decide +kernel
theorem dX8_claim_8 : decode cX8_claim 8 = .ok (.ireturn, 1) := by decide +kernel
theorem dX8_claim_9 : decode cX8_claim 9 = .ok (.iload_n 2, 1) := by decide +kernel
theorem dX8_claim_10 : decode cX8_claim 10 = .ok (.bipush (-9), 2) := by decide +kernel
theorem dX8_claim_12 : decode cX8_claim 12 = .ok (.if_icmp .eq 14, 3) := by decide +kernel
theorem dX8_claim_15 : decode cX8_claim 15 = .ok (.iload_n 1, 1) := by decide +kernel
theorem dX8_claim_16 : decode cX8_claim 16 = .ok (.iload_n 2, 1) := by decide +kernel
theorem dX8_claim_17 : decode cX8_claim 17 = .ok (.invokestatic 122, 3) := by decide +kernel
theorem dX8_claim_20 : decode cX8_claim 20 = .ok (.ifCond .ne 6, 3) := by decide +kernel
theorem dX8_claim_23 : decode cX8_claim 23 = .ok (.bipush (-2), 2) := by decide +kernel
theorem dX8_claim_25 : decode cX8_claim 25 = .ok (.ireturn, 1) := by decide +kernel
theorem dX8_claim_26 : decode cX8_claim 26 = .ok (.aload_n 0, 1) := by decide +kernel
theorem dX8_claim_27 : decode cX8_claim 27 = .ok (.invokevirtual 65, 3) := by decide +kernel
theorem dX8_claim_30 : decode cX8_claim 30 = .ok (.aload_n 0, 1) := by decide +kernel
theorem dX8_claim_31 : decode cX8_claim 31 = .ok (.iload_n 1, 1) := by decide +kernel
theorem dX8_claim_32 : decode cX8_claim 32 = .ok (.invokevirtual 125, 3) := by decide +kernel
theorem dX8_claim_35 : decode cX8_claim 35 = .ok (.istore_n 3, 1) := by decide +kernel
theorem dX8_claim_36 : decode cX8_claim 36 = .ok (.aload_n 0, 1) := by decide +kernel
theorem dX8_claim_37 : decode cX8_claim 37 = .ok (.getfield 7, 3) := by decide +kernel
theorem dX8_claim_40 : decode cX8_claim 40 = .ok (.bipush 18, 2) := by decide +kernel
theorem dX8_claim_42 : decode cX8_claim 42 = .ok (.iload_n 1, 1) := by decide +kernel
theorem dX8_claim_43 : decode cX8_claim 43 = .ok (.iadd, 1) := by decide +kernel
theorem dX8_claim_44 : decode cX8_claim 44 = .ok (.iload_n 2, 1) := by decide +kernel
theorem dX8_claim_45 : decode cX8_claim 45 = .ok (.iastore, 1) := by decide +kernel
theorem dX8_claim_46 : decode cX8_claim 46 = .ok (.iload_n 3, 1) := by decide +kernel
theorem dX8_claim_47 : decode cX8_claim 47 = .ok (.ireturn, 1) := by decide +kernel
set_option maxRecDepth 20000 in
theorem ggX8_ofClaim_X8_isSign : GoodIn wsX8_ofClaim wsX8_isSign := goodIn_r _ [4, 5, 6, 3, 7] (by decide +kernel) (by decide +kernel)
set_option maxRecDepth 20000 in
theorem gX8_ofClaim_X8_isSign : GoodIn wsX8_ofClaim (va_wsS RX8 54 yX8_isSign wsX8_isSign) := goodIn_app (goodIn_of _ (by decide +kernel)) ggX8_ofClaim_X8_isSign
set_option maxRecDepth 20000 in
theorem ggX8_ofClaim_X8_claimOf : GoodIn wsX8_ofClaim wsX8_claimOf := goodIn_r _ [11, 12, 13, 14, 15, 16, 17, 18, 19, 20, 21, 22, 23, 24, 25, 26] (by decide +kernel) (by decide +kernel)
set_option maxRecDepth 20000 in
theorem gX8_ofClaim_X8_claimOf : GoodIn wsX8_ofClaim (wsV RX8 125 RX8 yX8_claimOf wsX8_claimOf) := goodIn_app (goodIn_of _ (by decide +kernel)) ggX8_ofClaim_X8_claimOf
theorem dX8_ofClaim_0 : decode cX8_ofClaim 0 = .ok (.iload_n 1, 1) := by decide +kernel
theorem dX8_ofClaim_1 : decode cX8_ofClaim 1 = .ok (.invokestatic 54, 3) := by decide +kernel
theorem dX8_ofClaim_4 : decode cX8_ofClaim 4 = .ok (.ifCond .eq 11, 3) := by decide +kernel
theorem dX8_ofClaim_7 : decode cX8_ofClaim 7 = .ok (.aload_n 0, 1) := by decide +kernel
theorem dX8_ofClaim_8 : decode cX8_ofClaim 8 = .ok (.iload_n 1, 1) := by decide +kernel
theorem dX8_ofClaim_9 : decode cX8_ofClaim 9 = .ok (.invokevirtual 125, 3) := by decide +kernel
theorem dX8_ofClaim_12 : decode cX8_ofClaim 12 = .ok (.goto 4, 3) := by decide +kernel
theorem dX8_ofClaim_15 : decode cX8_ofClaim 15 = .ok (.iconst (-1), 1) := by decide +kernel
theorem dX8_ofClaim_16 : decode cX8_ofClaim 16 = .ok (.ireturn, 1) := by decide +kernel
set_option maxRecDepth 20000 in
theorem ggX8_lays_X8_digits : GoodIn wsX8_lays wsX8_digits := goodIn_r _ [4, 5, 6, 7, 3, 8] (by decide +kernel) (by decide +kernel)
set_option maxRecDepth 20000 in
theorem gX8_lays_X8_digits : GoodIn wsX8_lays (va_wsS RX8 46 yX8_digits wsX8_digits) := goodIn_app (goodIn_of _ (by decide +kernel)) ggX8_lays_X8_digits
set_option maxRecDepth 20000 in
theorem ggX8_lays_X8_digitAt : GoodIn wsX8_lays wsX8_digitAt := goodIn_r _ [11, 5] (by decide +kernel) (by decide +kernel)
set_option maxRecDepth 20000 in
theorem gX8_lays_X8_digitAt : GoodIn wsX8_lays (va_wsS RX8 75 yX8_digitAt wsX8_digitAt) := goodIn_app (goodIn_of _ (by decide +kernel)) ggX8_lays_X8_digitAt
theorem dX8_lays_0 : decode cX8_lays 0 = .ok (.iload_n 0, 1) := by decide +kernel
theorem dX8_lays_1 : decode cX8_lays 1 = .ok (.i2l, 1) := by decide +kernel
theorem dX8_lays_2 : decode cX8_lays 2 = .ok (.bipush 6, 2) := by decide +kernel
theorem dX8_lays_4 : decode cX8_lays 4 = .ok (.invokestatic 46, 3) := by decide +kernel
theorem dX8_lays_7 : decode cX8_lays 7 = .ok (.istore_n 3, 1) := by decide +kernel
theorem dX8_lays_8 : decode cX8_lays 8 = .ok (.iconst 0, 1) := by decide +kernel
theorem dX8_lays_9 : decode cX8_lays 9 = .ok (.istore 4, 2) := by decide +kernel
theorem dX8_lays_11 : decode cX8_lays 11 = .ok (.iload 4, 2) := by decide +kernel
theorem dX8_lays_13 : decode cX8_lays 13 = .ok (.iload_n 3, 1) := by decide +kernel
theorem dX8_lays_14 : decode cX8_lays 14 = .ok (.if_icmp .ge 23, 3) := by decide +kernel
theorem dX8_lays_17 : decode cX8_lays 17 = .ok (.aload_n 1, 1) := by decide +kernel
theorem dX8_lays_18 : decode cX8_lays 18 = .ok (.iload_n 2, 1) := by decide +kernel
theorem dX8_lays_19 : decode cX8_lays 19 = .ok (.iload 4, 2) := by decide +kernel
theorem dX8_lays_21 : decode cX8_lays 21 = .ok (.iadd, 1) := by decide +kernel
theorem dX8_lays_22 : decode cX8_lays 22 = .ok (.iload_n 0, 1) := by decide +kernel
theorem dX8_lays_23 : decode cX8_lays 23 = .ok (.i2l, 1) := by decide +kernel
theorem dX8_lays_24 : decode cX8_lays 24 = .ok (.iload_n 3, 1) := by decide +kernel
theorem dX8_lays_25 : decode cX8_lays 25 = .ok (.iload 4, 2) := by decide +kernel
theorem dX8_lays_27 : decode cX8_lays 27 = .ok (.invokestatic 75, 3) := by decide +kernel
theorem dX8_lays_30 : decode cX8_lays 30 = .ok (.iastore, 1) := by decide +kernel
theorem dX8_lays_31 : decode cX8_lays 31 = .ok (.iinc 4 1, 3) := by decide +kernel
theorem dX8_lays_34 : decode cX8_lays 34 = .ok (.goto (-23), 3) := by decide +kernel
theorem dX8_lays_37 : decode cX8_lays 37 = .ok (.iload_n 2, 1) := by decide +kernel
theorem dX8_lays_38 : decode cX8_lays 38 = .ok (.iload_n 3, 1) := by decide +kernel
theorem dX8_lays_39 : decode cX8_lays 39 = .ok (.iadd, 1) := by decide +kernel
theorem dX8_lays_40 : decode cX8_lays 40 = .ok (.ireturn, 1) := by decide +kernel
set_option maxRecDepth 20000 in
theorem ggX8_reduces_X8_claimOf : GoodIn wsX8_reduces wsX8_claimOf := goodIn_r _ [6, 7, 21, 22, 23, 24, 25, 26, 27, 28, 29, 30, 31, 32, 33, 34] (by decide +kernel) (by decide +kernel)
set_option maxRecDepth 20000 in
theorem gX8_reduces_X8_claimOf : GoodIn wsX8_reduces (wsV RX8 125 RX8 yX8_claimOf wsX8_claimOf) := goodIn_app (goodIn_of _ (by decide +kernel)) ggX8_reduces_X8_claimOf
set_option maxRecDepth 20000 in
theorem ggX8_reduces_X8_lays : GoodIn wsX8_reduces wsX8_lays := goodIn_r _ [10, 11, 12, 5, 13, 14, 15, 16, 17, 18, 19, 20] (by decide +kernel) (by decide +kernel)
set_option maxRecDepth 20000 in
theorem gX8_reduces_X8_lays : GoodIn wsX8_reduces (va_wsS RX8 128 yX8_lays wsX8_lays) := goodIn_app (goodIn_of _ (by decide +kernel)) ggX8_reduces_X8_lays
theorem dX8_reduces_0 : decode cX8_reduces 0 = .ok (.iload_n 2, 1) := by decide +kernel
theorem dX8_reduces_1 : decode cX8_reduces 1 = .ok (.istore_n 3, 1) := by decide +kernel
theorem dX8_reduces_2 : decode cX8_reduces 2 = .ok (.iconst 5, 1) := by decide +kernel
theorem dX8_reduces_3 : decode cX8_reduces 3 = .ok (.istore 4, 2) := by decide +kernel
theorem dX8_reduces_5 : decode cX8_reduces 5 = .ok (.iload 4, 2) := by decide +kernel
theorem dX8_reduces_7 : decode cX8_reduces 7 = .ok (.ifCond .le 111, 3) := by decide +kernel
theorem dX8_reduces_10 : decode cX8_reduces 10 = .ok (.aload_n 0, 1) := by decide +kernel
theorem dX8_reduces_11 : decode cX8_reduces 11 = .ok (.iload 4, 2) := by decide +kernel
theorem dX8_reduces_13 : decode cX8_reduces 13 = .ok (.invokevirtual 125, 3) := by decide +kernel
theorem dX8_reduces_16 : decode cX8_reduces 16 = .ok (.bipush (-9), 2) := by decide +kernel
theorem dX8_reduces_18 : decode cX8_reduces 18 = .ok (.if_icmp .eq 94, 3) := by decide +kernel
theorem dX8_reduces_21 : decode cX8_reduces 21 = .ok (.iconst 0, 1) := by decide +kernel
theorem dX8_reduces_22 : decode cX8_reduces 22 = .ok (.istore 5, 2) := by decide +kernel
theorem dX8_reduces_24 : decode cX8_reduces 24 = .ok (.iconst 0, 1) := by decide +kernel
theorem dX8_reduces_25 : decode cX8_reduces 25 = .ok (.istore 6, 2) := by decide +kernel
theorem dX8_reduces_27 : decode cX8_reduces 27 = .ok (.iload 6, 2) := by decide +kernel
theorem dX8_reduces_29 : decode cX8_reduces 29 = .ok (.iload_n 3, 1) := by decide +kernel
theorem dX8_reduces_30 : decode cX8_reduces 30 = .ok (.if_icmp .ge 52, 3) := by decide +kernel
theorem dX8_reduces_33 : decode cX8_reduces 33 = .ok (.aload_n 1, 1) := by decide +kernel
theorem dX8_reduces_34 : decode cX8_reduces 34 = .ok (.iload 6, 2) := by decide +kernel
theorem dX8_reduces_36 : decode cX8_reduces 36 = .ok (.iaload, 1) := by decide +kernel
theorem dX8_reduces_37 : decode cX8_reduces 37 = .ok (.iload 4, 2) := by decide +kernel
theorem dX8_reduces_39 : decode cX8_reduces 39 = .ok (.if_icmp .ne 23, 3) := by decide +kernel
theorem dX8_reduces_42 : decode cX8_reduces 42 = .ok (.aload_n 0, 1) := by decide +kernel
theorem dX8_reduces_43 : decode cX8_reduces 43 = .ok (.iload 4, 2) := by decide +kernel
theorem dX8_reduces_45 : decode cX8_reduces 45 = .ok (.invokevirtual 125, 3) := by decide +kernel
theorem dX8_reduces_48 : decode cX8_reduces 48 = .ok (.aload_n 0, 1) := by decide +kernel
theorem dX8_reduces_49 : decode cX8_reduces 49 = .ok (.getfield 37, 3) := by decide +kernel
theorem dX8_reduces_52 : decode cX8_reduces 52 = .ok (.iload 5, 2) := by decide +kernel
theorem dX8_reduces_54 : decode cX8_reduces 54 = .ok (.invokestatic 128, 3) := by decide +kernel
theorem dX8_reduces_57 : decode cX8_reduces 57 = .ok (.istore 5, 2) := by decide +kernel
theorem dX8_reduces_59 : decode cX8_reduces 59 = .ok (.goto 17, 3) := by decide +kernel
theorem dX8_reduces_62 : decode cX8_reduces 62 = .ok (.aload_n 0, 1) := by decide +kernel
theorem dX8_reduces_63 : decode cX8_reduces 63 = .ok (.getfield 37, 3) := by decide +kernel
theorem dX8_reduces_66 : decode cX8_reduces 66 = .ok (.iload 5, 2) := by decide +kernel
theorem dX8_reduces_68 : decode cX8_reduces 68 = .ok (.aload_n 1, 1) := by decide +kernel
theorem dX8_reduces_69 : decode cX8_reduces 69 = .ok (.iload 6, 2) := by decide +kernel
theorem dX8_reduces_71 : decode cX8_reduces 71 = .ok (.iaload, 1) := by decide +kernel
theorem dX8_reduces_72 : decode cX8_reduces 72 = .ok (.iastore, 1) := by decide +kernel
theorem dX8_reduces_73 : decode cX8_reduces 73 = .ok (.iinc 5 1, 3) := by decide +kernel
theorem dX8_reduces_76 : decode cX8_reduces 76 = .ok (.iinc 6 1, 3) := by decide +kernel
theorem dX8_reduces_79 : decode cX8_reduces 79 = .ok (.goto (-52), 3) := by decide +kernel
theorem dX8_reduces_82 : decode cX8_reduces 82 = .ok (.iconst 0, 1) := by decide +kernel
theorem dX8_reduces_83 : decode cX8_reduces 83 = .ok (.istore 6, 2) := by decide +kernel
theorem dX8_reduces_85 : decode cX8_reduces 85 = .ok (.iload 6, 2) := by decide +kernel
theorem dX8_reduces_87 : decode cX8_reduces 87 = .ok (.iload 5, 2) := by decide +kernel
theorem dX8_reduces_89 : decode cX8_reduces 89 = .ok (.if_icmp .ge 20, 3) := by decide +kernel
theorem dX8_reduces_92 : decode cX8_reduces 92 = .ok (.aload_n 1, 1) := by decide +kernel
theorem dX8_reduces_93 : decode cX8_reduces 93 = .ok (.iload 6, 2) := by decide +kernel
theorem dX8_reduces_95 : decode cX8_reduces 95 = .ok (.aload_n 0, 1) := by decide +kernel
theorem dX8_reduces_96 : decode cX8_reduces 96 = .ok (.getfield 37, 3) := by decide +kernel
theorem dX8_reduces_99 : decode cX8_reduces 99 = .ok (.iload 6, 2) := by decide +kernel
theorem dX8_reduces_101 : decode cX8_reduces 101 = .ok (.iaload, 1) := by decide +kernel
theorem dX8_reduces_102 : decode cX8_reduces 102 = .ok (.iastore, 1) := by decide +kernel
theorem dX8_reduces_103 : decode cX8_reduces 103 = .ok (.iinc 6 1, 3) := by decide +kernel
theorem dX8_reduces_106 : decode cX8_reduces 106 = .ok (.goto (-21), 3) := by decide +kernel
theorem dX8_reduces_109 : decode cX8_reduces 109 = .ok (.iload 5, 2) := by decide +kernel
theorem dX8_reduces_111 : decode cX8_reduces 111 = .ok (.istore_n 3, 1) := by decide +kernel
theorem dX8_reduces_112 : decode cX8_reduces 112 = .ok (.iinc 4 (-1), 3) := by decide +kernel
theorem dX8_reduces_115 : decode cX8_reduces 115 = .ok (.goto (-110), 3) := by decide +kernel
theorem dX8_reduces_118 : decode cX8_reduces 118 = .ok (.iload_n 3, 1) := by decide +kernel
theorem dX8_reduces_119 : decode cX8_reduces 119 = .ok (.ireturn, 1) := by decide +kernel
set_option maxRecDepth 20000 in
theorem ggX8_reducesBoth_X8_lays : GoodIn wsX8_reducesBoth wsX8_lays := goodIn_r _ [8, 9, 10, 7, 11, 12, 13, 14, 15, 16, 17, 18] (by decide +kernel) (by decide +kernel)
set_option maxRecDepth 20000 in
theorem gX8_reducesBoth_X8_lays : GoodIn wsX8_reducesBoth (va_wsS RX8 128 yX8_lays wsX8_lays) := goodIn_app (goodIn_of _ (by decide +kernel)) ggX8_reducesBoth_X8_lays
set_option maxRecDepth 20000 in
theorem ggX8_reducesBoth_X8_reduces : GoodIn wsX8_reducesBoth wsX8_reduces := goodIn_r _ [22, 23, 24, 25, 26, 7, 27, 28, 5, 6, 8, 9, 10, 11, 12, 13, 14, 15, 16, 17, 18, 29, 30, 31, 32, 33, 34, 35, 36, 37, 38, 39, 40, 41, 42] (by decide +kernel) (by decide +kernel)
set_option maxRecDepth 20000 in
theorem gX8_reducesBoth_X8_reduces : GoodIn wsX8_reducesBoth (wsV RX8 132 RX8 yX8_reduces wsX8_reduces) := goodIn_app (goodIn_of _ (by decide +kernel)) ggX8_reducesBoth_X8_reduces
theorem dX8_reducesBoth_0 : decode cX8_reducesBoth 0 = .ok (.aload_n 0, 1) := by decide +kernel
theorem dX8_reducesBoth_1 : decode cX8_reducesBoth 1 = .ok (.aload_n 0, 1) := by decide +kernel
theorem dX8_reducesBoth_2 : decode cX8_reducesBoth 2 = .ok (.aload_n 0, 1) := by decide +kernel
theorem dX8_reducesBoth_3 : decode cX8_reducesBoth 3 = .ok (.getfield 31, 3) := by decide +kernel
theorem dX8_reducesBoth_6 : decode cX8_reducesBoth 6 = .ok (.iload_n 1, 1) := by decide +kernel
theorem dX8_reducesBoth_7 : decode cX8_reducesBoth 7 = .ok (.aload_n 0, 1) := by decide +kernel
theorem dX8_reducesBoth_8 : decode cX8_reducesBoth 8 = .ok (.getfield 31, 3) := by decide +kernel
theorem dX8_reducesBoth_11 : decode cX8_reducesBoth 11 = .ok (.iconst 0, 1) := by decide +kernel
theorem dX8_reducesBoth_12 : decode cX8_reducesBoth 12 = .ok (.invokestatic 128, 3) := by decide +kernel
theorem dX8_reducesBoth_15 : decode cX8_reducesBoth 15 = .ok (.invokevirtual 132, 3) := by decide +kernel
theorem dX8_reducesBoth_18 : decode cX8_reducesBoth 18 = .ok (.putfield 136, 3) := by decide +kernel
theorem dX8_reducesBoth_21 : decode cX8_reducesBoth 21 = .ok (.aload_n 0, 1) := by decide +kernel
theorem dX8_reducesBoth_22 : decode cX8_reducesBoth 22 = .ok (.aload_n 0, 1) := by decide +kernel
theorem dX8_reducesBoth_23 : decode cX8_reducesBoth 23 = .ok (.aload_n 0, 1) := by decide +kernel
theorem dX8_reducesBoth_24 : decode cX8_reducesBoth 24 = .ok (.getfield 34, 3) := by decide +kernel
theorem dX8_reducesBoth_27 : decode cX8_reducesBoth 27 = .ok (.iload_n 2, 1) := by decide +kernel
theorem dX8_reducesBoth_28 : decode cX8_reducesBoth 28 = .ok (.aload_n 0, 1) := by decide +kernel
theorem dX8_reducesBoth_29 : decode cX8_reducesBoth 29 = .ok (.getfield 34, 3) := by decide +kernel
theorem dX8_reducesBoth_32 : decode cX8_reducesBoth 32 = .ok (.iconst 0, 1) := by decide +kernel
theorem dX8_reducesBoth_33 : decode cX8_reducesBoth 33 = .ok (.invokestatic 128, 3) := by decide +kernel
theorem dX8_reducesBoth_36 : decode cX8_reducesBoth 36 = .ok (.invokevirtual 132, 3) := by decide +kernel
theorem dX8_reducesBoth_39 : decode cX8_reducesBoth 39 = .ok (.putfield 139, 3) := by decide +kernel
theorem dX8_reducesBoth_42 : decode cX8_reducesBoth 42 = .ok (.return_, 1) := by decide +kernel
theorem dX8_alikeFrom_0 : decode cX8_alikeFrom 0 = .ok (.iconst 0, 1) := by decide +kernel
theorem dX8_alikeFrom_1 : decode cX8_alikeFrom 1 = .ok (.istore_n 2, 1) := by decide +kernel
theorem dX8_alikeFrom_2 : decode cX8_alikeFrom 2 = .ok (.iload_n 2, 1) := by decide +kernel
theorem dX8_alikeFrom_3 : decode cX8_alikeFrom 3 = .ok (.aload_n 0, 1) := by decide +kernel
theorem dX8_alikeFrom_4 : decode cX8_alikeFrom 4 = .ok (.getfield 136, 3) := by decide +kernel
theorem dX8_alikeFrom_7 : decode cX8_alikeFrom 7 = .ok (.if_icmp .ge 70, 3) := by decide +kernel
theorem dX8_alikeFrom_10 : decode cX8_alikeFrom 10 = .ok (.iload_n 2, 1) := by decide +kernel
theorem dX8_alikeFrom_11 : decode cX8_alikeFrom 11 = .ok (.aload_n 0, 1) := by decide +kernel
theorem dX8_alikeFrom_12 : decode cX8_alikeFrom 12 = .ok (.getfield 139, 3) := by decide +kernel
theorem dX8_alikeFrom_15 : decode cX8_alikeFrom 15 = .ok (.if_icmp .ge 62, 3) := by decide +kernel
theorem dX8_alikeFrom_18 : decode cX8_alikeFrom 18 = .ok (.aload_n 0, 1) := by decide +kernel
theorem dX8_alikeFrom_19 : decode cX8_alikeFrom 19 = .ok (.getfield 31, 3) := by decide +kernel
theorem dX8_alikeFrom_22 : decode cX8_alikeFrom 22 = .ok (.iload_n 1, 1) := by decide +kernel
theorem dX8_alikeFrom_23 : decode cX8_alikeFrom 23 = .ok (.ifCond .eq 14, 3) := by decide +kernel
theorem dX8_alikeFrom_26 : decode cX8_alikeFrom 26 = .ok (.aload_n 0, 1) := by decide +kernel
theorem dX8_alikeFrom_27 : decode cX8_alikeFrom 27 = .ok (.getfield 136, 3) := by decide +kernel
theorem dX8_alikeFrom_30 : decode cX8_alikeFrom 30 = .ok (.iconst 1, 1) := by decide +kernel
theorem dX8_alikeFrom_31 : decode cX8_alikeFrom 31 = .ok (.isub, 1) := by decide +kernel
theorem dX8_alikeFrom_32 : decode cX8_alikeFrom 32 = .ok (.iload_n 2, 1) := by decide +kernel
theorem dX8_alikeFrom_33 : decode cX8_alikeFrom 33 = .ok (.isub, 1) := by decide +kernel
theorem dX8_alikeFrom_34 : decode cX8_alikeFrom 34 = .ok (.goto 4, 3) := by decide +kernel
theorem dX8_alikeFrom_37 : decode cX8_alikeFrom 37 = .ok (.iload_n 2, 1) := by decide +kernel
theorem dX8_alikeFrom_38 : decode cX8_alikeFrom 38 = .ok (.iaload, 1) := by decide +kernel
end
section
theorem dX8_alikeFrom_39 : decode cX8_alikeFrom 39 = .ok (.istore_n 3, 1) := by decide +kernel
theorem dX8_alikeFrom_40 : decode cX8_alikeFrom 40 = .ok (.aload_n 0, 1) := by decide +kernel
theorem dX8_alikeFrom_41 : decode cX8_alikeFrom 41 = .ok (.getfield 34, 3) := by decide +kernel
theorem dX8_alikeFrom_44 : decode cX8_alikeFrom 44 = .ok (.iload_n 1, 1) := by decide +kernel
theorem dX8_alikeFrom_45 : decode cX8_alikeFrom 45 = .ok (.ifCond .eq 14, 3) := by decide +kernel
theorem dX8_alikeFrom_48 : decode cX8_alikeFrom 48 = .ok (.aload_n 0, 1) := by decide +kernel
theorem dX8_alikeFrom_49 : decode cX8_alikeFrom 49 = .ok (.getfield 139, 3) := by decide +kernel
theorem dX8_alikeFrom_52 : decode cX8_alikeFrom 52 = .ok (.iconst 1, 1) := by decide +kernel
theorem dX8_alikeFrom_53 : decode cX8_alikeFrom 53 = .ok (.isub, 1) := by decide +kernel
theorem dX8_alikeFrom_54 : decode cX8_alikeFrom 54 = .ok (.iload_n 2, 1) := by decide +kernel
theorem dX8_alikeFrom_55 : decode cX8_alikeFrom 55 = .ok (.isub, 1) := by decide +kernel
theorem dX8_alikeFrom_56 : decode cX8_alikeFrom 56 = .ok (.goto 4, 3) := by decide +kernel
theorem dX8_alikeFrom_59 : decode cX8_alikeFrom 59 = .ok (.iload_n 2, 1) := by decide +kernel
theorem dX8_alikeFrom_60 : decode cX8_alikeFrom 60 = .ok (.iaload, 1) := by decide +kernel
theorem dX8_alikeFrom_61 : decode cX8_alikeFrom 61 = .ok (.istore 4, 2) := by decide +kernel
theorem dX8_alikeFrom_63 : decode cX8_alikeFrom 63 = .ok (.iload_n 3, 1) := by decide +kernel
theorem dX8_alikeFrom_64 : decode cX8_alikeFrom 64 = .ok (.iload 4, 2) := by decide +kernel
theorem dX8_alikeFrom_66 : decode cX8_alikeFrom 66 = .ok (.if_icmp .eq 5, 3) := by decide +kernel
theorem dX8_alikeFrom_69 : decode cX8_alikeFrom 69 = .ok (.iload_n 2, 1) := by decide +kernel
theorem dX8_alikeFrom_70 : decode cX8_alikeFrom 70 = .ok (.ireturn, 1) := by decide +kernel
theorem dX8_alikeFrom_71 : decode cX8_alikeFrom 71 = .ok (.iinc 2 1, 3) := by decide +kernel
theorem dX8_alikeFrom_74 : decode cX8_alikeFrom 74 = .ok (.goto (-72), 3) := by decide +kernel
theorem dX8_alikeFrom_77 : decode cX8_alikeFrom 77 = .ok (.iload_n 2, 1) := by decide +kernel
theorem dX8_alikeFrom_78 : decode cX8_alikeFrom 78 = .ok (.ireturn, 1) := by decide +kernel
set_option maxRecDepth 20000 in
theorem ggX8_areAlike_X8_alikeFrom : GoodIn wsX8_areAlike wsX8_alikeFrom := goodIn_r _ [7, 1, 2, 8, 9, 10, 11, 12, 13, 14, 15, 16, 17, 18, 19, 20, 21, 22, 23] (by decide +kernel) (by decide +kernel)
set_option maxRecDepth 20000 in
theorem gX8_areAlike_X8_alikeFrom : GoodIn wsX8_areAlike (wsV RX8 142 RX8 yX8_alikeFrom wsX8_alikeFrom) := goodIn_app (goodIn_of _ (by decide +kernel)) ggX8_areAlike_X8_alikeFrom
theorem dX8_areAlike_0 : decode cX8_areAlike 0 = .ok (.aload_n 0, 1) := by decide +kernel
theorem dX8_areAlike_1 : decode cX8_areAlike 1 = .ok (.getfield 136, 3) := by decide +kernel
theorem dX8_areAlike_4 : decode cX8_areAlike 4 = .ok (.aload_n 0, 1) := by decide +kernel
theorem dX8_areAlike_5 : decode cX8_areAlike 5 = .ok (.getfield 139, 3) := by decide +kernel
theorem dX8_areAlike_8 : decode cX8_areAlike 8 = .ok (.if_icmp .ne 19, 3) := by decide +kernel
theorem dX8_areAlike_11 : decode cX8_areAlike 11 = .ok (.aload_n 0, 1) := by decide +kernel
theorem dX8_areAlike_12 : decode cX8_areAlike 12 = .ok (.iconst 0, 1) := by decide +kernel
theorem dX8_areAlike_13 : decode cX8_areAlike 13 = .ok (.invokevirtual 142, 3) := by decide +kernel
theorem dX8_areAlike_16 : decode cX8_areAlike 16 = .ok (.aload_n 0, 1) := by decide +kernel
theorem dX8_areAlike_17 : decode cX8_areAlike 17 = .ok (.getfield 136, 3) := by decide +kernel
theorem dX8_areAlike_20 : decode cX8_areAlike 20 = .ok (.if_icmp .ne 7, 3) := by decide +kernel
theorem dX8_areAlike_23 : decode cX8_areAlike 23 = .ok (.iconst 1, 1) := by decide +kernel
theorem dX8_areAlike_24 : decode cX8_areAlike 24 = .ok (.goto 4, 3) := by decide +kernel
theorem dX8_areAlike_27 : decode cX8_areAlike 27 = .ok (.iconst 0, 1) := by decide +kernel
theorem dX8_areAlike_28 : decode cX8_areAlike 28 = .ok (.ireturn, 1) := by decide +kernel
set_option maxRecDepth 20000 in
theorem ggX8_reduced_X8_isRow : GoodIn wsX8_reduced wsX8_isRow := goodIn_r _ [6, 7, 8, 5, 9, 10, 11, 12, 13] (by decide +kernel) (by decide +kernel)
set_option maxRecDepth 20000 in
theorem gX8_reduced_X8_isRow : GoodIn wsX8_reduced (va_wsS RX8 61 yX8_isRow wsX8_isRow) := goodIn_app (goodIn_of _ (by decide +kernel)) ggX8_reduced_X8_isRow
set_option maxRecDepth 20000 in
theorem ggX8_reduced_X8_reducesBoth : GoodIn wsX8_reduced wsX8_reducesBoth := goodIn_r _ [17, 2, 1, 18, 19, 20, 21, 5, 22, 7, 8, 9, 10, 11, 12, 13, 23, 24, 25, 26, 27, 28, 29, 30, 31, 32, 33, 34, 35, 36, 37, 38, 39, 40, 41, 42, 43, 44, 45, 46, 47, 48, 49] (by decide +kernel) (by decide +kernel)
set_option maxRecDepth 20000 in
theorem gX8_reduced_X8_reducesBoth : GoodIn wsX8_reduced (wsV RX8 146 RX8 yX8_reducesBoth wsX8_reducesBoth) := goodIn_app (goodIn_of _ (by decide +kernel)) ggX8_reduced_X8_reducesBoth
theorem dX8_reduced_0 : decode cX8_reduced 0 = .ok (.iload_n 1, 1) := by decide +kernel
theorem dX8_reduced_1 : decode cX8_reduced 1 = .ok (.bipush 9, 2) := by decide +kernel
theorem dX8_reduced_3 : decode cX8_reduced 3 = .ok (.invokestatic 61, 3) := by decide +kernel
theorem dX8_reduced_6 : decode cX8_reduced 6 = .ok (.ifCond .eq 8, 3) := by decide +kernel
theorem dX8_reduced_9 : decode cX8_reduced 9 = .ok (.iload_n 2, 1) := by decide +kernel
theorem dX8_reduced_10 : decode cX8_reduced 10 = .ok (.iconst (-1), 1) := by decide +kernel
theorem dX8_reduced_11 : decode cX8_reduced 11 = .ok (.if_icmp .ge 6, 3) := by decide +kernel
theorem dX8_reduced_14 : decode cX8_reduced 14 = .ok (.bipush (-2), 2) := by decide +kernel
theorem dX8_reduced_16 : decode cX8_reduced 16 = .ok (.ireturn, 1) := by decide +kernel
theorem dX8_reduced_17 : decode cX8_reduced 17 = .ok (.aload_n 0, 1) := by decide +kernel
theorem dX8_reduced_18 : decode cX8_reduced 18 = .ok (.iload_n 1, 1) := by decide +kernel
theorem dX8_reduced_19 : decode cX8_reduced 19 = .ok (.iconst 0, 1) := by decide +kernel
theorem dX8_reduced_20 : decode cX8_reduced 20 = .ok (.invokevirtual 146, 3) := by decide +kernel
theorem dX8_reduced_23 : decode cX8_reduced 23 = .ok (.iload_n 2, 1) := by decide +kernel
theorem dX8_reduced_24 : decode cX8_reduced 24 = .ok (.iconst (-1), 1) := by decide +kernel
theorem dX8_reduced_25 : decode cX8_reduced 25 = .ok (.if_icmp .ne 10, 3) := by decide +kernel
theorem dX8_reduced_28 : decode cX8_reduced 28 = .ok (.aload_n 0, 1) := by decide +kernel
theorem dX8_reduced_29 : decode cX8_reduced 29 = .ok (.getfield 136, 3) := by decide +kernel
theorem dX8_reduced_32 : decode cX8_reduced 32 = .ok (.goto 22, 3) := by decide +kernel
theorem dX8_reduced_35 : decode cX8_reduced 35 = .ok (.iload_n 2, 1) := by decide +kernel
theorem dX8_reduced_36 : decode cX8_reduced 36 = .ok (.aload_n 0, 1) := by decide +kernel
theorem dX8_reduced_37 : decode cX8_reduced 37 = .ok (.getfield 136, 3) := by decide +kernel
theorem dX8_reduced_40 : decode cX8_reduced 40 = .ok (.if_icmp .ge 12, 3) := by decide +kernel
theorem dX8_reduced_43 : decode cX8_reduced 43 = .ok (.aload_n 0, 1) := by decide +kernel
theorem dX8_reduced_44 : decode cX8_reduced 44 = .ok (.getfield 31, 3) := by decide +kernel
theorem dX8_reduced_47 : decode cX8_reduced 47 = .ok (.iload_n 2, 1) := by decide +kernel
theorem dX8_reduced_48 : decode cX8_reduced 48 = .ok (.iaload, 1) := by decide +kernel
theorem dX8_reduced_49 : decode cX8_reduced 49 = .ok (.goto 5, 3) := by decide +kernel
theorem dX8_reduced_52 : decode cX8_reduced 52 = .ok (.bipush (-9), 2) := by decide +kernel
theorem dX8_reduced_54 : decode cX8_reduced 54 = .ok (.ireturn, 1) := by decide +kernel
set_option maxRecDepth 20000 in
theorem ggX8_alike_X8_isRow : GoodIn wsX8_alike wsX8_isRow := goodIn_r _ [4, 5, 6, 3, 7, 8, 9, 10, 11] (by decide +kernel) (by decide +kernel)
set_option maxRecDepth 20000 in
theorem gX8_alike_X8_isRow : GoodIn wsX8_alike (va_wsS RX8 61 yX8_isRow wsX8_isRow) := goodIn_app (goodIn_of _ (by decide +kernel)) ggX8_alike_X8_isRow
set_option maxRecDepth 20000 in
theorem ggX8_alike_X8_reducesBoth : GoodIn wsX8_alike wsX8_reducesBoth := goodIn_r _ [15, 16, 17, 18, 19, 20, 21, 3, 22, 5, 6, 7, 8, 9, 10, 11, 23, 24, 25, 26, 27, 28, 29, 30, 31, 32, 33, 34, 35, 44, 45, 46, 47, 48, 49, 50, 51, 52, 53, 54, 55, 56, 57] (by decide +kernel) (by decide +kernel)
set_option maxRecDepth 20000 in
theorem gX8_alike_X8_reducesBoth : GoodIn wsX8_alike (wsV RX8 146 RX8 yX8_reducesBoth wsX8_reducesBoth) := goodIn_app (goodIn_of _ (by decide +kernel)) ggX8_alike_X8_reducesBoth
set_option maxRecDepth 20000 in
theorem ggX8_alike_X8_areAlike : GoodIn wsX8_alike wsX8_areAlike := goodIn_r _ [39, 17, 19, 40, 41, 42, 3, 43, 16, 18, 44, 45, 46, 47, 48, 49, 50, 51, 52, 53, 54, 55, 56, 57] (by decide +kernel) (by decide +kernel)
set_option maxRecDepth 20000 in
theorem gX8_alike_X8_areAlike : GoodIn wsX8_alike (wsV RX8 149 RX8 yX8_areAlike wsX8_areAlike) := goodIn_app (goodIn_of _ (by decide +kernel)) ggX8_alike_X8_areAlike
theorem dX8_alike_0 : decode cX8_alike 0 = .ok (.iload_n 1, 1) := by decide +kernel
theorem dX8_alike_1 : decode cX8_alike 1 = .ok (.bipush 9, 2) := by decide +kernel
theorem dX8_alike_3 : decode cX8_alike 3 = .ok (.invokestatic 61, 3) := by decide +kernel
theorem dX8_alike_6 : decode cX8_alike 6 = .ok (.ifCond .eq 12, 3) := by decide +kernel
theorem dX8_alike_9 : decode cX8_alike 9 = .ok (.iload_n 2, 1) := by decide +kernel
theorem dX8_alike_10 : decode cX8_alike 10 = .ok (.bipush 9, 2) := by decide +kernel
theorem dX8_alike_12 : decode cX8_alike 12 = .ok (.invokestatic 61, 3) := by decide +kernel
theorem dX8_alike_15 : decode cX8_alike 15 = .ok (.ifCond .ne 6, 3) := by decide +kernel
theorem dX8_alike_18 : decode cX8_alike 18 = .ok (.bipush (-2), 2) := by decide +kernel
theorem dX8_alike_20 : decode cX8_alike 20 = .ok (.ireturn, 1) := by decide +kernel
theorem dX8_alike_21 : decode cX8_alike 21 = .ok (.aload_n 0, 1) := by decide +kernel
theorem dX8_alike_22 : decode cX8_alike 22 = .ok (.iload_n 1, 1) := by decide +kernel
theorem dX8_alike_23 : decode cX8_alike 23 = .ok (.iload_n 2, 1) := by decide +kernel
theorem dX8_alike_24 : decode cX8_alike 24 = .ok (.invokevirtual 146, 3) := by decide +kernel
theorem dX8_alike_27 : decode cX8_alike 27 = .ok (.aload_n 0, 1) := by decide +kernel
theorem dX8_alike_28 : decode cX8_alike 28 = .ok (.invokevirtual 149, 3) := by decide +kernel
theorem dX8_alike_31 : decode cX8_alike 31 = .ok (.ifCond .eq 7, 3) := by decide +kernel
theorem dX8_alike_34 : decode cX8_alike 34 = .ok (.iconst 1, 1) := by decide +kernel
theorem dX8_alike_35 : decode cX8_alike 35 = .ok (.goto 4, 3) := by decide +kernel
theorem dX8_alike_38 : decode cX8_alike 38 = .ok (.iconst 0, 1) := by decide +kernel
theorem dX8_alike_39 : decode cX8_alike 39 = .ok (.ireturn, 1) := by decide +kernel
set_option maxRecDepth 20000 in
theorem ggX8_common_X8_isRow : GoodIn wsX8_common wsX8_isRow := goodIn_r _ [4, 5, 6, 3, 7, 8, 9, 10, 11] (by decide +kernel) (by decide +kernel)
set_option maxRecDepth 20000 in
theorem gX8_common_X8_isRow : GoodIn wsX8_common (va_wsS RX8 61 yX8_isRow wsX8_isRow) := goodIn_app (goodIn_of _ (by decide +kernel)) ggX8_common_X8_isRow
set_option maxRecDepth 20000 in
theorem ggX8_common_X8_within : GoodIn wsX8_common wsX8_within := goodIn_r _ [11] (by decide +kernel) (by decide +kernel)
set_option maxRecDepth 20000 in
theorem gX8_common_X8_within : GoodIn wsX8_common (va_wsS RX8 40 yX8_within wsX8_within) := goodIn_app (goodIn_of _ (by decide +kernel)) ggX8_common_X8_within
set_option maxRecDepth 20000 in
theorem ggX8_common_X8_reducesBoth : GoodIn wsX8_common wsX8_reducesBoth := goodIn_r _ [15, 16, 17, 18, 19, 20, 21, 3, 22, 5, 6, 7, 8, 9, 10, 11, 23, 24, 25, 26, 27, 28, 29, 30, 31, 32, 33, 34, 35, 40, 41, 42, 43, 44, 45, 46, 47, 48, 49, 50, 51, 52, 53] (by decide +kernel) (by decide +kernel)
set_option maxRecDepth 20000 in
theorem gX8_common_X8_reducesBoth : GoodIn wsX8_common (wsV RX8 146 RX8 yX8_reducesBoth wsX8_reducesBoth) := goodIn_app (goodIn_of _ (by decide +kernel)) ggX8_common_X8_reducesBoth
set_option maxRecDepth 20000 in
theorem ggX8_common_X8_alikeFrom : GoodIn wsX8_common wsX8_alikeFrom := goodIn_r _ [39, 17, 19, 16, 18, 40, 41, 42, 43, 44, 45, 46, 47, 48, 49, 50, 51, 52, 53] (by decide +kernel) (by decide +kernel)
set_option maxRecDepth 20000 in
theorem gX8_common_X8_alikeFrom : GoodIn wsX8_common (wsV RX8 142 RX8 yX8_alikeFrom wsX8_alikeFrom) := goodIn_app (goodIn_of _ (by decide +kernel)) ggX8_common_X8_alikeFrom
theorem dX8_common_0 : decode cX8_common 0 = .ok (.iload_n 1, 1) := by decide +kernel
theorem dX8_common_1 : decode cX8_common 1 = .ok (.bipush 9, 2) := by decide +kernel
theorem dX8_common_3 : decode cX8_common 3 = .ok (.invokestatic 61, 3) := by decide +kernel
theorem dX8_common_6 : decode cX8_common 6 = .ok (.ifCond .eq 21, 3) := by decide +kernel
theorem dX8_common_9 : decode cX8_common 9 = .ok (.iload_n 2, 1) := by decide +kernel
theorem dX8_common_10 : decode cX8_common 10 = .ok (.bipush 9, 2) := by decide +kernel
theorem dX8_common_12 : decode cX8_common 12 = .ok (.invokestatic 61, 3) := by decide +kernel
theorem dX8_common_15 : decode cX8_common 15 = .ok (.ifCond .eq 12, 3) := by decide +kernel
theorem dX8_common_18 : decode cX8_common 18 = .ok (.iload_n 3, 1) := by decide +kernel
theorem dX8_common_19 : decode cX8_common 19 = .ok (.iconst 0, 1) := by decide +kernel
theorem dX8_common_20 : decode cX8_common 20 = .ok (.iconst 1, 1) := by decide +kernel
theorem dX8_common_21 : decode cX8_common 21 = .ok (.invokestatic 40, 3) := by decide +kernel
theorem dX8_common_24 : decode cX8_common 24 = .ok (.ifCond .ne 6, 3) := by decide +kernel
theorem dX8_common_27 : decode cX8_common 27 = .ok (.bipush (-2), 2) := by decide +kernel
theorem dX8_common_29 : decode cX8_common 29 = .ok (.ireturn, 1) := by decide +kernel
theorem dX8_common_30 : decode cX8_common 30 = .ok (.aload_n 0, 1) := by decide +kernel
theorem dX8_common_31 : decode cX8_common 31 = .ok (.iload_n 1, 1) := by decide +kernel
theorem dX8_common_32 : decode cX8_common 32 = .ok (.iload_n 2, 1) := by decide +kernel
theorem dX8_common_33 : decode cX8_common 33 = .ok (.invokevirtual 146, 3) := by decide +kernel
theorem dX8_common_36 : decode cX8_common 36 = .ok (.aload_n 0, 1) := by decide +kernel
theorem dX8_common_37 : decode cX8_common 37 = .ok (.iload_n 3, 1) := by decide +kernel
theorem dX8_common_38 : decode cX8_common 38 = .ok (.iconst 1, 1) := by decide +kernel
theorem dX8_common_39 : decode cX8_common 39 = .ok (.if_icmp .ne 7, 3) := by decide +kernel
theorem dX8_common_42 : decode cX8_common 42 = .ok (.iconst 1, 1) := by decide +kernel
theorem dX8_common_43 : decode cX8_common 43 = .ok (.goto 4, 3) := by decide +kernel
theorem dX8_common_46 : decode cX8_common 46 = .ok (.iconst 0, 1) := by decide +kernel
theorem dX8_common_47 : decode cX8_common 47 = .ok (.invokevirtual 142, 3) := by decide +kernel
theorem dX8_common_50 : decode cX8_common 50 = .ok (.ireturn, 1) := by decide +kernel
set_option maxRecDepth 20000 in
theorem ggX8_breaks_X8_claimOf : GoodIn wsX8_breaks wsX8_claimOf := goodIn_r _ [9, 10, 41, 42, 43, 44, 45, 46, 47, 48, 49, 50, 51, 52, 53, 54] (by decide +kernel) (by decide +kernel)
set_option maxRecDepth 20000 in
theorem gX8_breaks_X8_claimOf : GoodIn wsX8_breaks (wsV RX8 125 RX8 yX8_claimOf wsX8_claimOf) := goodIn_app (goodIn_of _ (by decide +kernel)) ggX8_breaks_X8_claimOf
set_option maxRecDepth 20000 in
theorem ggX8_breaks_X8_digits : GoodIn wsX8_breaks wsX8_digits := goodIn_r _ [13, 14, 15, 16, 8, 17] (by decide +kernel) (by decide +kernel)
set_option maxRecDepth 20000 in
theorem gX8_breaks_X8_digits : GoodIn wsX8_breaks (va_wsS RX8 46 yX8_digits wsX8_digits) := goodIn_app (goodIn_of _ (by decide +kernel)) ggX8_breaks_X8_digits
set_option maxRecDepth 20000 in
theorem ggX8_breaks_X8_ruleOf : GoodIn wsX8_breaks wsX8_ruleOf := goodIn_r _ [21, 10, 41, 42, 43, 44, 45, 46, 47, 48, 49, 50, 51, 52, 53, 54] (by decide +kernel) (by decide +kernel)
set_option maxRecDepth 20000 in
theorem gX8_breaks_X8_ruleOf : GoodIn wsX8_breaks (wsV RX8 68 RX8 yX8_ruleOf wsX8_ruleOf) := goodIn_app (goodIn_of _ (by decide +kernel)) ggX8_breaks_X8_ruleOf
set_option maxRecDepth 20000 in
theorem ggX8_breaks_X8_digitAt : GoodIn wsX8_breaks wsX8_digitAt := goodIn_r _ [24, 14] (by decide +kernel) (by decide +kernel)
set_option maxRecDepth 20000 in
theorem gX8_breaks_X8_digitAt : GoodIn wsX8_breaks (va_wsS RX8 75 yX8_digitAt wsX8_digitAt) := goodIn_app (goodIn_of _ (by decide +kernel)) ggX8_breaks_X8_digitAt
set_option maxRecDepth 20000 in
theorem ggX8_breaks_X8_lays : GoodIn wsX8_breaks wsX8_lays := goodIn_r _ [27, 11, 12, 8, 13, 14, 15, 16, 17, 22, 23, 24] (by decide +kernel) (by decide +kernel)
set_option maxRecDepth 20000 in
theorem gX8_breaks_X8_lays : GoodIn wsX8_breaks (va_wsS RX8 128 yX8_lays wsX8_lays) := goodIn_app (goodIn_of _ (by decide +kernel)) ggX8_breaks_X8_lays
set_option maxRecDepth 20000 in
theorem ggX8_breaks_X8_reduces : GoodIn wsX8_breaks wsX8_reduces := goodIn_r _ [31, 32, 5, 6, 7, 8, 9, 10, 25, 26, 27, 11, 12, 13, 14, 15, 16, 17, 22, 23, 24, 41, 42, 43, 44, 45, 46, 47, 48, 49, 50, 51, 52, 53, 54] (by decide +kernel) (by decide +kernel)
set_option maxRecDepth 20000 in
theorem gX8_breaks_X8_reduces : GoodIn wsX8_breaks (wsV RX8 132 RX8 yX8_reduces wsX8_reduces) := goodIn_app (goodIn_of _ (by decide +kernel)) ggX8_breaks_X8_reduces
set_option maxRecDepth 20000 in
theorem ggX8_breaks_X8_areAlike : GoodIn wsX8_breaks wsX8_areAlike := goodIn_r _ [36, 2, 4, 37, 38, 39, 8, 40, 1, 3, 41, 42, 43, 44, 45, 46, 47, 48, 49, 50, 51, 52, 53, 54] (by decide +kernel) (by decide +kernel)
set_option maxRecDepth 20000 in
theorem gX8_breaks_X8_areAlike : GoodIn wsX8_breaks (wsV RX8 149 RX8 yX8_areAlike wsX8_areAlike) := goodIn_app (goodIn_of _ (by decide +kernel)) ggX8_breaks_X8_areAlike
theorem dX8_breaks_0 : decode cX8_breaks 0 = .ok (.aload_n 0, 1) := by decide +kernel
theorem dX8_breaks_1 : decode cX8_breaks 1 = .ok (.iload_n 1, 1) := by decide +kernel
theorem dX8_breaks_2 : decode cX8_breaks 2 = .ok (.invokevirtual 125, 3) := by decide +kernel
theorem dX8_breaks_5 : decode cX8_breaks 5 = .ok (.istore_n 3, 1) := by decide +kernel
theorem dX8_breaks_6 : decode cX8_breaks 6 = .ok (.iload_n 3, 1) := by decide +kernel
theorem dX8_breaks_7 : decode cX8_breaks 7 = .ok (.i2l, 1) := by decide +kernel
theorem dX8_breaks_8 : decode cX8_breaks 8 = .ok (.bipush 6, 2) := by decide +kernel
theorem dX8_breaks_10 : decode cX8_breaks 10 = .ok (.invokestatic 46, 3) := by decide +kernel
theorem dX8_breaks_13 : decode cX8_breaks 13 = .ok (.istore 4, 2) := by decide +kernel
theorem dX8_breaks_15 : decode cX8_breaks 15 = .ok (.aload_n 0, 1) := by decide +kernel
theorem dX8_breaks_16 : decode cX8_breaks 16 = .ok (.iload_n 1, 1) := by decide +kernel
theorem dX8_breaks_17 : decode cX8_breaks 17 = .ok (.iload_n 2, 1) := by decide +kernel
theorem dX8_breaks_18 : decode cX8_breaks 18 = .ok (.invokevirtual 68, 3) := by decide +kernel
theorem dX8_breaks_21 : decode cX8_breaks 21 = .ok (.istore 5, 2) := by decide +kernel
theorem dX8_breaks_23 : decode cX8_breaks 23 = .ok (.aload_n 0, 1) := by decide +kernel
theorem dX8_breaks_24 : decode cX8_breaks 24 = .ok (.iload_n 3, 1) := by decide +kernel
theorem dX8_breaks_25 : decode cX8_breaks 25 = .ok (.i2l, 1) := by decide +kernel
theorem dX8_breaks_26 : decode cX8_breaks 26 = .ok (.iload 4, 2) := by decide +kernel
theorem dX8_breaks_28 : decode cX8_breaks 28 = .ok (.iconst 0, 1) := by decide +kernel
theorem dX8_breaks_29 : decode cX8_breaks 29 = .ok (.invokestatic 75, 3) := by decide +kernel
theorem dX8_breaks_32 : decode cX8_breaks 32 = .ok (.iload_n 2, 1) := by decide +kernel
theorem dX8_breaks_33 : decode cX8_breaks 33 = .ok (.invokevirtual 68, 3) := by decide +kernel
theorem dX8_breaks_36 : decode cX8_breaks 36 = .ok (.istore 6, 2) := by decide +kernel
theorem dX8_breaks_38 : decode cX8_breaks 38 = .ok (.iload 5, 2) := by decide +kernel
theorem dX8_breaks_40 : decode cX8_breaks 40 = .ok (.bipush (-9), 2) := by decide +kernel
theorem dX8_breaks_42 : decode cX8_breaks 42 = .ok (.if_icmp .eq 10, 3) := by decide +kernel
theorem dX8_breaks_45 : decode cX8_breaks 45 = .ok (.iload 6, 2) := by decide +kernel
theorem dX8_breaks_47 : decode cX8_breaks 47 = .ok (.bipush (-9), 2) := by decide +kernel
theorem dX8_breaks_49 : decode cX8_breaks 49 = .ok (.if_icmp .ne 16, 3) := by decide +kernel
theorem dX8_breaks_52 : decode cX8_breaks 52 = .ok (.iload 5, 2) := by decide +kernel
theorem dX8_breaks_54 : decode cX8_breaks 54 = .ok (.iload 6, 2) := by decide +kernel
theorem dX8_breaks_56 : decode cX8_breaks 56 = .ok (.if_icmp .eq 7, 3) := by decide +kernel
theorem dX8_breaks_59 : decode cX8_breaks 59 = .ok (.iconst 1, 1) := by decide +kernel
theorem dX8_breaks_60 : decode cX8_breaks 60 = .ok (.goto 4, 3) := by decide +kernel
theorem dX8_breaks_63 : decode cX8_breaks 63 = .ok (.iconst 0, 1) := by decide +kernel
theorem dX8_breaks_64 : decode cX8_breaks 64 = .ok (.ireturn, 1) := by decide +kernel
theorem dX8_breaks_65 : decode cX8_breaks 65 = .ok (.aload_n 0, 1) := by decide +kernel
theorem dX8_breaks_66 : decode cX8_breaks 66 = .ok (.aload_n 0, 1) := by decide +kernel
theorem dX8_breaks_67 : decode cX8_breaks 67 = .ok (.aload_n 0, 1) := by decide +kernel
theorem dX8_breaks_68 : decode cX8_breaks 68 = .ok (.getfield 31, 3) := by decide +kernel
theorem dX8_breaks_71 : decode cX8_breaks 71 = .ok (.iload 5, 2) := by decide +kernel
theorem dX8_breaks_73 : decode cX8_breaks 73 = .ok (.aload_n 0, 1) := by decide +kernel
theorem dX8_breaks_74 : decode cX8_breaks 74 = .ok (.getfield 31, 3) := by decide +kernel
theorem dX8_breaks_77 : decode cX8_breaks 77 = .ok (.iconst 0, 1) := by decide +kernel
theorem dX8_breaks_78 : decode cX8_breaks 78 = .ok (.invokestatic 128, 3) := by decide +kernel
theorem dX8_breaks_81 : decode cX8_breaks 81 = .ok (.invokevirtual 132, 3) := by decide +kernel
theorem dX8_breaks_84 : decode cX8_breaks 84 = .ok (.putfield 136, 3) := by decide +kernel
theorem dX8_breaks_87 : decode cX8_breaks 87 = .ok (.iload 6, 2) := by decide +kernel
theorem dX8_breaks_89 : decode cX8_breaks 89 = .ok (.aload_n 0, 1) := by decide +kernel
theorem dX8_breaks_90 : decode cX8_breaks 90 = .ok (.getfield 34, 3) := by decide +kernel
theorem dX8_breaks_93 : decode cX8_breaks 93 = .ok (.iconst 0, 1) := by decide +kernel
theorem dX8_breaks_94 : decode cX8_breaks 94 = .ok (.invokestatic 128, 3) := by decide +kernel
theorem dX8_breaks_97 : decode cX8_breaks 97 = .ok (.istore 7, 2) := by decide +kernel
theorem dX8_breaks_99 : decode cX8_breaks 99 = .ok (.iconst 1, 1) := by decide +kernel
theorem dX8_breaks_100 : decode cX8_breaks 100 = .ok (.istore 8, 2) := by decide +kernel
theorem dX8_breaks_102 : decode cX8_breaks 102 = .ok (.iload 8, 2) := by decide +kernel
theorem dX8_breaks_104 : decode cX8_breaks 104 = .ok (.iload 4, 2) := by decide +kernel
theorem dX8_breaks_106 : decode cX8_breaks 106 = .ok (.if_icmp .ge 28, 3) := by decide +kernel
theorem dX8_breaks_109 : decode cX8_breaks 109 = .ok (.aload_n 0, 1) := by decide +kernel
theorem dX8_breaks_110 : decode cX8_breaks 110 = .ok (.getfield 34, 3) := by decide +kernel
theorem dX8_breaks_113 : decode cX8_breaks 113 = .ok (.iload 7, 2) := by decide +kernel
theorem dX8_breaks_115 : decode cX8_breaks 115 = .ok (.iload_n 3, 1) := by decide +kernel
theorem dX8_breaks_116 : decode cX8_breaks 116 = .ok (.i2l, 1) := by decide +kernel
theorem dX8_breaks_117 : decode cX8_breaks 117 = .ok (.iload 4, 2) := by decide +kernel
theorem dX8_breaks_119 : decode cX8_breaks 119 = .ok (.iload 8, 2) := by decide +kernel
theorem dX8_breaks_121 : decode cX8_breaks 121 = .ok (.invokestatic 75, 3) := by decide +kernel
theorem dX8_breaks_124 : decode cX8_breaks 124 = .ok (.iastore, 1) := by decide +kernel
theorem dX8_breaks_125 : decode cX8_breaks 125 = .ok (.iinc 7 1, 3) := by decide +kernel
theorem dX8_breaks_128 : decode cX8_breaks 128 = .ok (.iinc 8 1, 3) := by decide +kernel
theorem dX8_breaks_131 : decode cX8_breaks 131 = .ok (.goto (-29), 3) := by decide +kernel
theorem dX8_breaks_134 : decode cX8_breaks 134 = .ok (.aload_n 0, 1) := by decide +kernel
theorem dX8_breaks_135 : decode cX8_breaks 135 = .ok (.aload_n 0, 1) := by decide +kernel
theorem dX8_breaks_136 : decode cX8_breaks 136 = .ok (.aload_n 0, 1) := by decide +kernel
theorem dX8_breaks_137 : decode cX8_breaks 137 = .ok (.getfield 34, 3) := by decide +kernel
theorem dX8_breaks_140 : decode cX8_breaks 140 = .ok (.iload 7, 2) := by decide +kernel
theorem dX8_breaks_142 : decode cX8_breaks 142 = .ok (.invokevirtual 132, 3) := by decide +kernel
theorem dX8_breaks_145 : decode cX8_breaks 145 = .ok (.putfield 139, 3) := by decide +kernel
theorem dX8_breaks_148 : decode cX8_breaks 148 = .ok (.aload_n 0, 1) := by decide +kernel
theorem dX8_breaks_149 : decode cX8_breaks 149 = .ok (.invokevirtual 149, 3) := by decide +kernel
theorem dX8_breaks_152 : decode cX8_breaks 152 = .ok (.ifCond .ne 7, 3) := by decide +kernel
theorem dX8_breaks_155 : decode cX8_breaks 155 = .ok (.iconst 1, 1) := by decide +kernel
theorem dX8_breaks_156 : decode cX8_breaks 156 = .ok (.goto 4, 3) := by decide +kernel
theorem dX8_breaks_159 : decode cX8_breaks 159 = .ok (.iconst 0, 1) := by decide +kernel
theorem dX8_breaks_160 : decode cX8_breaks 160 = .ok (.ireturn, 1) := by decide +kernel
set_option maxRecDepth 20000 in
theorem ggX8_brokenBy_X8_claimOf : GoodIn wsX8_brokenBy wsX8_claimOf := goodIn_r _ [5, 6, 45, 46, 47, 48, 49, 50, 51, 52, 53, 54, 55, 56, 57, 58] (by decide +kernel) (by decide +kernel)
set_option maxRecDepth 20000 in
theorem gX8_brokenBy_X8_claimOf : GoodIn wsX8_brokenBy (wsV RX8 125 RX8 yX8_claimOf wsX8_claimOf) := goodIn_app (goodIn_of _ (by decide +kernel)) ggX8_brokenBy_X8_claimOf
set_option maxRecDepth 20000 in
theorem ggX8_brokenBy_X8_breaks : GoodIn wsX8_brokenBy wsX8_breaks := goodIn_r _ [10, 11, 12, 13, 14, 1, 2, 3, 4, 5, 6, 15, 16, 17, 18, 19, 20, 21, 22, 23, 24, 25, 26, 27, 28, 29, 30, 31, 32, 33, 34, 35, 36, 37, 38, 39, 40, 41, 42, 43, 44, 45, 46, 47, 48, 49, 50, 51, 52, 53, 54, 55, 56, 57, 58] (by decide +kernel) (by decide +kernel)
set_option maxRecDepth 20000 in
theorem gX8_brokenBy_X8_breaks : GoodIn wsX8_brokenBy (wsV RX8 153 RX8 yX8_breaks wsX8_breaks) := goodIn_app (goodIn_of _ (by decide +kernel)) ggX8_brokenBy_X8_breaks
theorem dX8_brokenBy_0 : decode cX8_brokenBy 0 = .ok (.iconst 0, 1) := by decide +kernel
theorem dX8_brokenBy_1 : decode cX8_brokenBy 1 = .ok (.istore_n 2, 1) := by decide +kernel
theorem dX8_brokenBy_2 : decode cX8_brokenBy 2 = .ok (.iload_n 2, 1) := by decide +kernel
theorem dX8_brokenBy_3 : decode cX8_brokenBy 3 = .ok (.iconst 3, 1) := by decide +kernel
theorem dX8_brokenBy_4 : decode cX8_brokenBy 4 = .ok (.if_icmp .ge 30, 3) := by decide +kernel
theorem dX8_brokenBy_7 : decode cX8_brokenBy 7 = .ok (.aload_n 0, 1) := by decide +kernel
theorem dX8_brokenBy_8 : decode cX8_brokenBy 8 = .ok (.iload_n 1, 1) := by decide +kernel
theorem dX8_brokenBy_9 : decode cX8_brokenBy 9 = .ok (.invokevirtual 125, 3) := by decide +kernel
theorem dX8_brokenBy_12 : decode cX8_brokenBy 12 = .ok (.bipush (-9), 2) := by decide +kernel
theorem dX8_brokenBy_14 : decode cX8_brokenBy 14 = .ok (.if_icmp .eq 20, 3) := by decide +kernel
theorem dX8_brokenBy_17 : decode cX8_brokenBy 17 = .ok (.aload_n 0, 1) := by decide +kernel
theorem dX8_brokenBy_18 : decode cX8_brokenBy 18 = .ok (.iload_n 1, 1) := by decide +kernel
theorem dX8_brokenBy_19 : decode cX8_brokenBy 19 = .ok (.iload_n 2, 1) := by decide +kernel
theorem dX8_brokenBy_20 : decode cX8_brokenBy 20 = .ok (.invokevirtual 153, 3) := by decide +kernel
theorem dX8_brokenBy_23 : decode cX8_brokenBy 23 = .ok (.ifCond .eq 5, 3) := by decide +kernel
theorem dX8_brokenBy_26 : decode cX8_brokenBy 26 = .ok (.iload_n 2, 1) := by decide +kernel
theorem dX8_brokenBy_27 : decode cX8_brokenBy 27 = .ok (.ireturn, 1) := by decide +kernel
theorem dX8_brokenBy_28 : decode cX8_brokenBy 28 = .ok (.iinc 2 1, 3) := by decide +kernel
theorem dX8_brokenBy_31 : decode cX8_brokenBy 31 = .ok (.goto (-29), 3) := by decide +kernel
theorem dX8_brokenBy_34 : decode cX8_brokenBy 34 = .ok (.bipush (-9), 2) := by decide +kernel
theorem dX8_brokenBy_36 : decode cX8_brokenBy 36 = .ok (.ireturn, 1) := by decide +kernel
set_option maxRecDepth 20000 in
theorem ggX8_brokenNow_X8_brokenBy : GoodIn wsX8_brokenNow wsX8_brokenBy := goodIn_r _ [5, 6, 7, 8, 4, 9, 10, 11, 12, 13, 14, 15, 16, 17, 18, 19, 20, 21, 22, 23, 24, 25, 26, 27, 28, 29, 30, 31, 32, 33, 34, 35, 36, 37, 38, 39, 40, 41, 42, 43, 44, 45, 46, 47, 48, 49, 50, 51, 52, 53, 54, 55, 56, 57, 58, 59, 60, 61, 62] (by decide +kernel) (by decide +kernel)
set_option maxRecDepth 20000 in
theorem gX8_brokenNow_X8_brokenBy : GoodIn wsX8_brokenNow (wsV RX8 156 RX8 yX8_brokenBy wsX8_brokenBy) := goodIn_app (goodIn_of _ (by decide +kernel)) ggX8_brokenNow_X8_brokenBy
theorem dX8_brokenNow_0 : decode cX8_brokenNow 0 = .ok (.iconst 0, 1) := by decide +kernel
theorem dX8_brokenNow_1 : decode cX8_brokenNow 1 = .ok (.istore_n 1, 1) := by decide +kernel
theorem dX8_brokenNow_2 : decode cX8_brokenNow 2 = .ok (.iconst 0, 1) := by decide +kernel
theorem dX8_brokenNow_3 : decode cX8_brokenNow 3 = .ok (.istore_n 2, 1) := by decide +kernel
theorem dX8_brokenNow_4 : decode cX8_brokenNow 4 = .ok (.iload_n 2, 1) := by decide +kernel
theorem dX8_brokenNow_5 : decode cX8_brokenNow 5 = .ok (.bipush 6, 2) := by decide +kernel
theorem dX8_brokenNow_7 : decode cX8_brokenNow 7 = .ok (.if_icmp .ge 29, 3) := by decide +kernel
theorem dX8_brokenNow_10 : decode cX8_brokenNow 10 = .ok (.iload_n 1, 1) := by decide +kernel
theorem dX8_brokenNow_11 : decode cX8_brokenNow 11 = .ok (.aload_n 0, 1) := by decide +kernel
theorem dX8_brokenNow_12 : decode cX8_brokenNow 12 = .ok (.iload_n 2, 1) := by decide +kernel
theorem dX8_brokenNow_13 : decode cX8_brokenNow 13 = .ok (.invokevirtual 156, 3) := by decide +kernel
theorem dX8_brokenNow_16 : decode cX8_brokenNow 16 = .ok (.bipush (-9), 2) := by decide +kernel
theorem dX8_brokenNow_18 : decode cX8_brokenNow 18 = .ok (.if_icmp .eq 9, 3) := by decide +kernel
theorem dX8_brokenNow_21 : decode cX8_brokenNow 21 = .ok (.iconst 1, 1) := by decide +kernel
theorem dX8_brokenNow_22 : decode cX8_brokenNow 22 = .ok (.iload_n 2, 1) := by decide +kernel
theorem dX8_brokenNow_23 : decode cX8_brokenNow 23 = .ok (.ishl, 1) := by decide +kernel
theorem dX8_brokenNow_24 : decode cX8_brokenNow 24 = .ok (.goto 4, 3) := by decide +kernel
theorem dX8_brokenNow_27 : decode cX8_brokenNow 27 = .ok (.iconst 0, 1) := by decide +kernel
theorem dX8_brokenNow_28 : decode cX8_brokenNow 28 = .ok (.ior, 1) := by decide +kernel
theorem dX8_brokenNow_29 : decode cX8_brokenNow 29 = .ok (.istore_n 1, 1) := by decide +kernel
theorem dX8_brokenNow_30 : decode cX8_brokenNow 30 = .ok (.iinc 2 1, 3) := by decide +kernel
theorem dX8_brokenNow_33 : decode cX8_brokenNow 33 = .ok (.goto (-29), 3) := by decide +kernel
theorem dX8_brokenNow_36 : decode cX8_brokenNow 36 = .ok (.iload_n 1, 1) := by decide +kernel
theorem dX8_brokenNow_37 : decode cX8_brokenNow 37 = .ok (.ireturn, 1) := by decide +kernel
set_option maxRecDepth 20000 in
theorem ggX8_broken_X8_within : GoodIn wsX8_broken wsX8_within := goodIn_r _ [4] (by decide +kernel) (by decide +kernel)
set_option maxRecDepth 20000 in
theorem gX8_broken_X8_within : GoodIn wsX8_broken (va_wsS RX8 40 yX8_within wsX8_within) := goodIn_app (goodIn_of _ (by decide +kernel)) ggX8_broken_X8_within
set_option maxRecDepth 20000 in
theorem ggX8_broken_X8_brokenBy : GoodIn wsX8_broken wsX8_brokenBy := goodIn_r _ [8, 9, 10, 11, 3, 12, 13, 14, 15, 16, 17, 18, 19, 20, 21, 22, 23, 24, 25, 1, 2, 4, 26, 27, 28, 29, 30, 31, 32, 33, 34, 35, 36, 37, 38, 39, 40, 41, 42, 43, 44, 45, 46, 47, 48, 49, 50, 51, 52, 53, 54, 55, 56, 57, 58, 59, 60, 61, 62] (by decide +kernel) (by decide +kernel)
set_option maxRecDepth 20000 in
theorem gX8_broken_X8_brokenBy : GoodIn wsX8_broken (wsV RX8 156 RX8 yX8_brokenBy wsX8_brokenBy) := goodIn_app (goodIn_of _ (by decide +kernel)) ggX8_broken_X8_brokenBy
theorem dX8_broken_0 : decode cX8_broken 0 = .ok (.iload_n 1, 1) := by decide +kernel
theorem dX8_broken_1 : decode cX8_broken 1 = .ok (.iconst 0, 1) := by decide +kernel
theorem dX8_broken_2 : decode cX8_broken 2 = .ok (.iconst 1, 1) := by decide +kernel
theorem dX8_broken_3 : decode cX8_broken 3 = .ok (.invokestatic 40, 3) := by decide +kernel
theorem dX8_broken_6 : decode cX8_broken 6 = .ok (.ifCond .ne 6, 3) := by decide +kernel
theorem dX8_broken_9 : decode cX8_broken 9 = .ok (.bipush (-2), 2) := by decide +kernel
theorem dX8_broken_11 : decode cX8_broken 11 = .ok (.ireturn, 1) := by decide +kernel
theorem dX8_broken_12 : decode cX8_broken 12 = .ok (.iconst 0, 1) := by decide +kernel
theorem dX8_broken_13 : decode cX8_broken 13 = .ok (.istore_n 2, 1) := by decide +kernel
theorem dX8_broken_14 : decode cX8_broken 14 = .ok (.iload_n 2, 1) := by decide +kernel
theorem dX8_broken_15 : decode cX8_broken 15 = .ok (.bipush 6, 2) := by decide +kernel
theorem dX8_broken_17 : decode cX8_broken 17 = .ok (.if_icmp .ge 31, 3) := by decide +kernel
theorem dX8_broken_20 : decode cX8_broken 20 = .ok (.aload_n 0, 1) := by decide +kernel
theorem dX8_broken_21 : decode cX8_broken 21 = .ok (.iload_n 2, 1) := by decide +kernel
theorem dX8_broken_22 : decode cX8_broken 22 = .ok (.invokevirtual 156, 3) := by decide +kernel
theorem dX8_broken_25 : decode cX8_broken 25 = .ok (.istore_n 3, 1) := by decide +kernel
theorem dX8_broken_26 : decode cX8_broken 26 = .ok (.iload_n 3, 1) := by decide +kernel
theorem dX8_broken_27 : decode cX8_broken 27 = .ok (.bipush (-9), 2) := by decide +kernel
theorem dX8_broken_29 : decode cX8_broken 29 = .ok (.if_icmp .eq 13, 3) := by decide +kernel
theorem dX8_broken_32 : decode cX8_broken 32 = .ok (.iload_n 1, 1) := by decide +kernel
theorem dX8_broken_33 : decode cX8_broken 33 = .ok (.ifCond .ne 7, 3) := by decide +kernel
theorem dX8_broken_36 : decode cX8_broken 36 = .ok (.iload_n 2, 1) := by decide +kernel
theorem dX8_broken_37 : decode cX8_broken 37 = .ok (.goto 4, 3) := by decide +kernel
theorem dX8_broken_40 : decode cX8_broken 40 = .ok (.iload_n 3, 1) := by decide +kernel
theorem dX8_broken_41 : decode cX8_broken 41 = .ok (.ireturn, 1) := by decide +kernel
theorem dX8_broken_42 : decode cX8_broken 42 = .ok (.iinc 2 1, 3) := by decide +kernel
theorem dX8_broken_45 : decode cX8_broken 45 = .ok (.goto (-31), 3) := by decide +kernel
theorem dX8_broken_48 : decode cX8_broken 48 = .ok (.bipush (-9), 2) := by decide +kernel
theorem dX8_broken_50 : decode cX8_broken 50 = .ok (.ireturn, 1) := by decide +kernel
theorem dX8_sizeOf_0 : decode cX8_sizeOf 0 = .ok (.iconst 0, 1) := by decide +kernel
theorem dX8_sizeOf_1 : decode cX8_sizeOf 1 = .ok (.istore_n 1, 1) := by decide +kernel
theorem dX8_sizeOf_2 : decode cX8_sizeOf 2 = .ok (.iload_n 0, 1) := by decide +kernel
theorem dX8_sizeOf_3 : decode cX8_sizeOf 3 = .ok (.istore_n 2, 1) := by decide +kernel
theorem dX8_sizeOf_4 : decode cX8_sizeOf 4 = .ok (.iload_n 2, 1) := by decide +kernel
theorem dX8_sizeOf_5 : decode cX8_sizeOf 5 = .ok (.ifCond .le 16, 3) := by decide +kernel
theorem dX8_sizeOf_8 : decode cX8_sizeOf 8 = .ok (.iload_n 1, 1) := by decide +kernel
theorem dX8_sizeOf_9 : decode cX8_sizeOf 9 = .ok (.iload_n 2, 1) := by decide +kernel
theorem dX8_sizeOf_10 : decode cX8_sizeOf 10 = .ok (.iconst 1, 1) := by decide +kernel
theorem dX8_sizeOf_11 : decode cX8_sizeOf 11 = .ok (.iand, 1) := by decide +kernel
theorem dX8_sizeOf_12 : decode cX8_sizeOf 12 = .ok (.iadd, 1) := by decide +kernel
theorem dX8_sizeOf_13 : decode cX8_sizeOf 13 = .ok (.istore_n 1, 1) := by decide +kernel
theorem dX8_sizeOf_14 : decode cX8_sizeOf 14 = .ok (.iload_n 2, 1) := by decide +kernel
theorem dX8_sizeOf_15 : decode cX8_sizeOf 15 = .ok (.iconst 1, 1) := by decide +kernel
theorem dX8_sizeOf_16 : decode cX8_sizeOf 16 = .ok (.ishr, 1) := by decide +kernel
theorem dX8_sizeOf_17 : decode cX8_sizeOf 17 = .ok (.istore_n 2, 1) := by decide +kernel
theorem dX8_sizeOf_18 : decode cX8_sizeOf 18 = .ok (.goto (-14), 3) := by decide +kernel
theorem dX8_sizeOf_21 : decode cX8_sizeOf 21 = .ok (.iload_n 1, 1) := by decide +kernel
theorem dX8_sizeOf_22 : decode cX8_sizeOf 22 = .ok (.ireturn, 1) := by decide +kernel
set_option maxRecDepth 20000 in
theorem ggX8_settle_X8_keeps : GoodIn wsX8_settle wsX8_keeps := goodIn_r _ [6, 7, 8, 1, 65, 66, 67, 68, 69, 70, 71, 72, 73, 74, 75, 76, 77, 78] (by decide +kernel) (by decide +kernel)
set_option maxRecDepth 20000 in
theorem gX8_settle_X8_keeps : GoodIn wsX8_settle (wsV RX8 65 RX8 yX8_keeps wsX8_keeps) := goodIn_app (goodIn_of _ (by decide +kernel)) ggX8_settle_X8_keeps
set_option maxRecDepth 20000 in
theorem ggX8_settle_X8_brokenNow : GoodIn wsX8_settle wsX8_brokenNow := goodIn_r _ [12, 13, 14, 15, 5, 16, 17, 18, 19, 20, 1, 21, 22, 23, 24, 25, 26, 27, 28, 29, 30, 31, 32, 33, 34, 35, 36, 37, 38, 39, 40, 41, 42, 43, 44, 45, 46, 47, 48, 49, 50, 51, 52, 53, 54, 55, 56, 57, 58, 65, 66, 67, 68, 69, 70, 71, 72, 73, 74, 75, 76, 77, 78] (by decide +kernel) (by decide +kernel)
set_option maxRecDepth 20000 in
theorem gX8_settle_X8_brokenNow : GoodIn wsX8_settle (wsV RX8 159 RX8 yX8_brokenNow wsX8_brokenNow) := goodIn_app (goodIn_of _ (by decide +kernel)) ggX8_settle_X8_brokenNow
set_option maxRecDepth 20000 in
theorem ggX8_settle_X8_has : GoodIn wsX8_settle wsX8_has := goodIn_r _ [61] (by decide +kernel) (by decide +kernel)
set_option maxRecDepth 20000 in
theorem gX8_settle_X8_has : GoodIn wsX8_settle (va_wsS RX8 119 yX8_has wsX8_has) := goodIn_app (goodIn_of _ (by decide +kernel)) ggX8_settle_X8_has
set_option maxRecDepth 20000 in
theorem ggX8_settle_X8_claimOf : GoodIn wsX8_settle wsX8_claimOf := goodIn_r _ [20, 1, 65, 66, 67, 68, 69, 70, 71, 72, 73, 74, 75, 76, 77, 78] (by decide +kernel) (by decide +kernel)
set_option maxRecDepth 20000 in
theorem gX8_settle_X8_claimOf : GoodIn wsX8_settle (wsV RX8 125 RX8 yX8_claimOf wsX8_claimOf) := goodIn_app (goodIn_of _ (by decide +kernel)) ggX8_settle_X8_claimOf
set_option maxRecDepth 20000 in
theorem ggX8_settle_X8_sizeOf : GoodIn wsX8_settle wsX8_sizeOf := goodIn_r _ [64] (by decide +kernel) (by decide +kernel)
set_option maxRecDepth 20000 in
theorem gX8_settle_X8_sizeOf : GoodIn wsX8_settle (va_wsS RX8 163 yX8_sizeOf wsX8_sizeOf) := goodIn_app (goodIn_of _ (by decide +kernel)) ggX8_settle_X8_sizeOf
theorem dX8_settle_0 : decode cX8_settle 0 = .ok (.aload_n 0, 1) := by decide +kernel
theorem dX8_settle_1 : decode cX8_settle 1 = .ok (.invokevirtual 65, 3) := by decide +kernel
theorem dX8_settle_4 : decode cX8_settle 4 = .ok (.iconst 0, 1) := by decide +kernel
theorem dX8_settle_5 : decode cX8_settle 5 = .ok (.istore_n 1, 1) := by decide +kernel
theorem dX8_settle_6 : decode cX8_settle 6 = .ok (.aload_n 0, 1) := by decide +kernel
theorem dX8_settle_7 : decode cX8_settle 7 = .ok (.invokevirtual 159, 3) := by decide +kernel
theorem dX8_settle_10 : decode cX8_settle 10 = .ok (.istore_n 2, 1) := by decide +kernel
theorem dX8_settle_11 : decode cX8_settle 11 = .ok (.iload_n 2, 1) := by decide +kernel
theorem dX8_settle_12 : decode cX8_settle 12 = .ok (.ifCond .eq 59, 3) := by decide +kernel
theorem dX8_settle_15 : decode cX8_settle 15 = .ok (.iconst 0, 1) := by decide +kernel
theorem dX8_settle_16 : decode cX8_settle 16 = .ok (.istore_n 3, 1) := by decide +kernel
theorem dX8_settle_17 : decode cX8_settle 17 = .ok (.iload_n 3, 1) := by decide +kernel
theorem dX8_settle_18 : decode cX8_settle 18 = .ok (.bipush 6, 2) := by decide +kernel
theorem dX8_settle_20 : decode cX8_settle 20 = .ok (.if_icmp .ge 36, 3) := by decide +kernel
theorem dX8_settle_23 : decode cX8_settle 23 = .ok (.aload_n 0, 1) := by decide +kernel
theorem dX8_settle_24 : decode cX8_settle 24 = .ok (.getfield 7, 3) := by decide +kernel
theorem dX8_settle_27 : decode cX8_settle 27 = .ok (.bipush 18, 2) := by decide +kernel
theorem dX8_settle_29 : decode cX8_settle 29 = .ok (.iload_n 3, 1) := by decide +kernel
theorem dX8_settle_30 : decode cX8_settle 30 = .ok (.iadd, 1) := by decide +kernel
theorem dX8_settle_31 : decode cX8_settle 31 = .ok (.iload_n 2, 1) := by decide +kernel
theorem dX8_settle_32 : decode cX8_settle 32 = .ok (.iload_n 3, 1) := by decide +kernel
theorem dX8_settle_33 : decode cX8_settle 33 = .ok (.invokestatic 119, 3) := by decide +kernel
theorem dX8_settle_36 : decode cX8_settle 36 = .ok (.ifCond .eq 8, 3) := by decide +kernel
theorem dX8_settle_39 : decode cX8_settle 39 = .ok (.bipush (-9), 2) := by decide +kernel
theorem dX8_settle_41 : decode cX8_settle 41 = .ok (.goto 8, 3) := by decide +kernel
theorem dX8_settle_44 : decode cX8_settle 44 = .ok (.aload_n 0, 1) := by decide +kernel
theorem dX8_settle_45 : decode cX8_settle 45 = .ok (.iload_n 3, 1) := by decide +kernel
theorem dX8_settle_46 : decode cX8_settle 46 = .ok (.invokevirtual 125, 3) := by decide +kernel
theorem dX8_settle_49 : decode cX8_settle 49 = .ok (.iastore, 1) := by decide +kernel
theorem dX8_settle_50 : decode cX8_settle 50 = .ok (.iinc 3 1, 3) := by decide +kernel
theorem dX8_settle_53 : decode cX8_settle 53 = .ok (.goto (-36), 3) := by decide +kernel
theorem dX8_settle_56 : decode cX8_settle 56 = .ok (.iload_n 1, 1) := by decide +kernel
theorem dX8_settle_57 : decode cX8_settle 57 = .ok (.iload_n 2, 1) := by decide +kernel
theorem dX8_settle_58 : decode cX8_settle 58 = .ok (.invokestatic 163, 3) := by decide +kernel
theorem dX8_settle_61 : decode cX8_settle 61 = .ok (.iadd, 1) := by decide +kernel
theorem dX8_settle_62 : decode cX8_settle 62 = .ok (.istore_n 1, 1) := by decide +kernel
theorem dX8_settle_63 : decode cX8_settle 63 = .ok (.aload_n 0, 1) := by decide +kernel
theorem dX8_settle_64 : decode cX8_settle 64 = .ok (.invokevirtual 159, 3) := by decide +kernel
theorem dX8_settle_67 : decode cX8_settle 67 = .ok (.istore_n 2, 1) := by decide +kernel
theorem dX8_settle_68 : decode cX8_settle 68 = .ok (.goto (-57), 3) := by decide +kernel
theorem dX8_settle_71 : decode cX8_settle 71 = .ok (.iload_n 1, 1) := by decide +kernel
theorem dX8_settle_72 : decode cX8_settle 72 = .ok (.ireturn, 1) := by decide +kernel
set_option maxRecDepth 20000 in
theorem ggX8_might_X8_isSign : GoodIn wsX8_might wsX8_isSign := goodIn_r _ [5, 6, 7, 4, 8] (by decide +kernel) (by decide +kernel)
set_option maxRecDepth 20000 in
theorem gX8_might_X8_isSign : GoodIn wsX8_might (va_wsS RX8 54 yX8_isSign wsX8_isSign) := goodIn_app (goodIn_of _ (by decide +kernel)) ggX8_might_X8_isSign
set_option maxRecDepth 20000 in
theorem ggX8_might_X8_claimOf : GoodIn wsX8_might wsX8_claimOf := goodIn_r _ [12, 1, 55, 56, 57, 58, 59, 60, 61, 62, 63, 64, 65, 66, 67, 68] (by decide +kernel) (by decide +kernel)
set_option maxRecDepth 20000 in
theorem gX8_might_X8_claimOf : GoodIn wsX8_might (wsV RX8 125 RX8 yX8_claimOf wsX8_claimOf) := goodIn_app (goodIn_of _ (by decide +kernel)) ggX8_might_X8_claimOf
set_option maxRecDepth 20000 in
theorem ggX8_might_X8_isClaim : GoodIn wsX8_might wsX8_isClaim := goodIn_r _ [15, 16, 17, 4, 18, 19, 6, 7, 8] (by decide +kernel) (by decide +kernel)
set_option maxRecDepth 20000 in
theorem gX8_might_X8_isClaim : GoodIn wsX8_might (va_wsS RX8 122 yX8_isClaim wsX8_isClaim) := goodIn_app (goodIn_of _ (by decide +kernel)) ggX8_might_X8_isClaim
set_option maxRecDepth 20000 in
theorem ggX8_might_X8_brokenBy : GoodIn wsX8_might wsX8_brokenBy := goodIn_r _ [23, 9, 10, 11, 4, 12, 1, 24, 25, 26, 27, 28, 29, 30, 31, 16, 17, 18, 19, 6, 7, 8, 32, 33, 34, 35, 36, 37, 38, 39, 40, 41, 42, 43, 44, 45, 46, 47, 48, 49, 50, 51, 52, 53, 54, 55, 56, 57, 58, 59, 60, 61, 62, 63, 64, 65, 66, 67, 68] (by decide +kernel) (by decide +kernel)
set_option maxRecDepth 20000 in
theorem gX8_might_X8_brokenBy : GoodIn wsX8_might (wsV RX8 156 RX8 yX8_brokenBy wsX8_brokenBy) := goodIn_app (goodIn_of _ (by decide +kernel)) ggX8_might_X8_brokenBy
theorem dX8_might_0 : decode cX8_might 0 = .ok (.iload_n 1, 1) := by decide +kernel
theorem dX8_might_1 : decode cX8_might 1 = .ok (.invokestatic 54, 3) := by decide +kernel
theorem dX8_might_4 : decode cX8_might 4 = .ok (.ifCond .ne 5, 3) := by decide +kernel
theorem dX8_might_7 : decode cX8_might 7 = .ok (.iconst (-1), 1) := by decide +kernel
theorem dX8_might_8 : decode cX8_might 8 = .ok (.ireturn, 1) := by decide +kernel
theorem dX8_might_9 : decode cX8_might 9 = .ok (.iload_n 2, 1) := by decide +kernel
theorem dX8_might_10 : decode cX8_might 10 = .ok (.iconst (-1), 1) := by decide +kernel
theorem dX8_might_11 : decode cX8_might 11 = .ok (.if_icmp .ge 6, 3) := by decide +kernel
theorem dX8_might_14 : decode cX8_might 14 = .ok (.bipush (-2), 2) := by decide +kernel
theorem dX8_might_16 : decode cX8_might 16 = .ok (.ireturn, 1) := by decide +kernel
theorem dX8_might_17 : decode cX8_might 17 = .ok (.aload_n 0, 1) := by decide +kernel
theorem dX8_might_18 : decode cX8_might 18 = .ok (.iload_n 1, 1) := by decide +kernel
theorem dX8_might_19 : decode cX8_might 19 = .ok (.invokevirtual 125, 3) := by decide +kernel
theorem dX8_might_22 : decode cX8_might 22 = .ok (.istore_n 3, 1) := by decide +kernel
theorem dX8_might_23 : decode cX8_might 23 = .ok (.iconst 0, 1) := by decide +kernel
theorem dX8_might_24 : decode cX8_might 24 = .ok (.istore 4, 2) := by decide +kernel
theorem dX8_might_26 : decode cX8_might 26 = .ok (.bipush (-9), 2) := by decide +kernel
theorem dX8_might_28 : decode cX8_might 28 = .ok (.istore 5, 2) := by decide +kernel
theorem dX8_might_30 : decode cX8_might 30 = .ok (.iconst 1, 1) := by decide +kernel
theorem dX8_might_31 : decode cX8_might 31 = .ok (.istore 6, 2) := by decide +kernel
theorem dX8_might_33 : decode cX8_might 33 = .ok (.iload 6, 2) := by decide +kernel
theorem dX8_might_35 : decode cX8_might 35 = .ok (.sipush 1000, 3) := by decide +kernel
theorem dX8_might_38 : decode cX8_might 38 = .ok (.if_icmp .ge 57, 3) := by decide +kernel
theorem dX8_might_41 : decode cX8_might 41 = .ok (.iload_n 1, 1) := by decide +kernel
theorem dX8_might_42 : decode cX8_might 42 = .ok (.iload 6, 2) := by decide +kernel
theorem dX8_might_44 : decode cX8_might 44 = .ok (.invokestatic 122, 3) := by decide +kernel
theorem dX8_might_47 : decode cX8_might 47 = .ok (.ifCond .eq 42, 3) := by decide +kernel
theorem dX8_might_50 : decode cX8_might 50 = .ok (.aload_n 0, 1) := by decide +kernel
theorem dX8_might_51 : decode cX8_might 51 = .ok (.getfield 7, 3) := by decide +kernel
theorem dX8_might_54 : decode cX8_might 54 = .ok (.bipush 18, 2) := by decide +kernel
theorem dX8_might_56 : decode cX8_might 56 = .ok (.iload_n 1, 1) := by decide +kernel
theorem dX8_might_57 : decode cX8_might 57 = .ok (.iadd, 1) := by decide +kernel
theorem dX8_might_58 : decode cX8_might 58 = .ok (.iload 6, 2) := by decide +kernel
theorem dX8_might_60 : decode cX8_might 60 = .ok (.iastore, 1) := by decide +kernel
theorem dX8_might_61 : decode cX8_might 61 = .ok (.aload_n 0, 1) := by decide +kernel
theorem dX8_might_62 : decode cX8_might 62 = .ok (.iload_n 1, 1) := by decide +kernel
theorem dX8_might_63 : decode cX8_might 63 = .ok (.invokevirtual 156, 3) := by decide +kernel
theorem dX8_might_66 : decode cX8_might 66 = .ok (.bipush (-9), 2) := by decide +kernel
theorem dX8_might_68 : decode cX8_might 68 = .ok (.if_icmp .ne 21, 3) := by decide +kernel
theorem dX8_might_71 : decode cX8_might 71 = .ok (.iload 4, 2) := by decide +kernel
theorem dX8_might_73 : decode cX8_might 73 = .ok (.iload_n 2, 1) := by decide +kernel
theorem dX8_might_74 : decode cX8_might 74 = .ok (.if_icmp .ne 8, 3) := by decide +kernel
theorem dX8_might_77 : decode cX8_might 77 = .ok (.iload 6, 2) := by decide +kernel
theorem dX8_might_79 : decode cX8_might 79 = .ok (.goto 5, 3) := by decide +kernel
theorem dX8_might_82 : decode cX8_might 82 = .ok (.iload 5, 2) := by decide +kernel
theorem dX8_might_84 : decode cX8_might 84 = .ok (.istore 5, 2) := by decide +kernel
theorem dX8_might_86 : decode cX8_might 86 = .ok (.iinc 4 1, 3) := by decide +kernel
theorem dX8_might_89 : decode cX8_might 89 = .ok (.iinc 6 1, 3) := by decide +kernel
theorem dX8_might_92 : decode cX8_might 92 = .ok (.goto (-59), 3) := by decide +kernel
theorem dX8_might_95 : decode cX8_might 95 = .ok (.aload_n 0, 1) := by decide +kernel
theorem dX8_might_96 : decode cX8_might 96 = .ok (.getfield 7, 3) := by decide +kernel
theorem dX8_might_99 : decode cX8_might 99 = .ok (.bipush 18, 2) := by decide +kernel
theorem dX8_might_101 : decode cX8_might 101 = .ok (.iload_n 1, 1) := by decide +kernel
theorem dX8_might_102 : decode cX8_might 102 = .ok (.iadd, 1) := by decide +kernel
theorem dX8_might_103 : decode cX8_might 103 = .ok (.iload_n 3, 1) := by decide +kernel
theorem dX8_might_104 : decode cX8_might 104 = .ok (.iastore, 1) := by decide +kernel
theorem dX8_might_105 : decode cX8_might 105 = .ok (.iload_n 2, 1) := by decide +kernel
theorem dX8_might_106 : decode cX8_might 106 = .ok (.iconst (-1), 1) := by decide +kernel
theorem dX8_might_107 : decode cX8_might 107 = .ok (.if_icmp .ne 8, 3) := by decide +kernel
theorem dX8_might_110 : decode cX8_might 110 = .ok (.iload 4, 2) := by decide +kernel
theorem dX8_might_112 : decode cX8_might 112 = .ok (.goto 5, 3) := by decide +kernel
theorem dX8_might_115 : decode cX8_might 115 = .ok (.iload 5, 2) := by decide +kernel
theorem dX8_might_117 : decode cX8_might 117 = .ok (.ireturn, 1) := by decide +kernel
set_option maxRecDepth 20000 in
theorem ggX8_undo_X8_within : GoodIn wsX8_undo wsX8_within := goodIn_r _ [7] (by decide +kernel) (by decide +kernel)
set_option maxRecDepth 20000 in
theorem gX8_undo_X8_within : GoodIn wsX8_undo (va_wsS RX8 40 yX8_within wsX8_within) := goodIn_app (goodIn_of _ (by decide +kernel)) ggX8_undo_X8_within
theorem dX8_undo_0 : decode cX8_undo 0 = .ok (.iload_n 1, 1) := by decide +kernel
theorem dX8_undo_1 : decode cX8_undo 1 = .ok (.iconst 0, 1) := by decide +kernel
theorem dX8_undo_2 : decode cX8_undo 2 = .ok (.aload_n 0, 1) := by decide +kernel
theorem dX8_undo_3 : decode cX8_undo 3 = .ok (.getfield 50, 3) := by decide +kernel
theorem dX8_undo_6 : decode cX8_undo 6 = .ok (.invokestatic 40, 3) := by decide +kernel
theorem dX8_undo_9 : decode cX8_undo 9 = .ok (.ifCond .ne 6, 3) := by decide +kernel
theorem dX8_undo_12 : decode cX8_undo 12 = .ok (.bipush (-2), 2) := by decide +kernel
theorem dX8_undo_14 : decode cX8_undo 14 = .ok (.ireturn, 1) := by decide +kernel
theorem dX8_undo_15 : decode cX8_undo 15 = .ok (.aload_n 0, 1) := by decide +kernel
theorem dX8_undo_16 : decode cX8_undo 16 = .ok (.dup, 1) := by decide +kernel
theorem dX8_undo_17 : decode cX8_undo 17 = .ok (.getfield 50, 3) := by decide +kernel
theorem dX8_undo_20 : decode cX8_undo 20 = .ok (.iload_n 1, 1) := by decide +kernel
theorem dX8_undo_21 : decode cX8_undo 21 = .ok (.isub, 1) := by decide +kernel
theorem dX8_undo_22 : decode cX8_undo 22 = .ok (.putfield 50, 3) := by decide +kernel
theorem dX8_undo_25 : decode cX8_undo 25 = .ok (.iconst 0, 1) := by decide +kernel
theorem dX8_undo_26 : decode cX8_undo 26 = .ok (.istore_n 2, 1) := by decide +kernel
theorem dX8_undo_27 : decode cX8_undo 27 = .ok (.iload_n 2, 1) := by decide +kernel
theorem dX8_undo_28 : decode cX8_undo 28 = .ok (.bipush 24, 2) := by decide +kernel
theorem dX8_undo_30 : decode cX8_undo 30 = .ok (.if_icmp .ge 33, 3) := by decide +kernel
theorem dX8_undo_33 : decode cX8_undo 33 = .ok (.iload_n 1, 1) := by decide +kernel
theorem dX8_undo_34 : decode cX8_undo 34 = .ok (.ifCond .le 29, 3) := by decide +kernel
theorem dX8_undo_37 : decode cX8_undo 37 = .ok (.aload_n 0, 1) := by decide +kernel
theorem dX8_undo_38 : decode cX8_undo 38 = .ok (.getfield 7, 3) := by decide +kernel
theorem dX8_undo_41 : decode cX8_undo 41 = .ok (.iload_n 2, 1) := by decide +kernel
theorem dX8_undo_42 : decode cX8_undo 42 = .ok (.aload_n 0, 1) := by decide +kernel
theorem dX8_undo_43 : decode cX8_undo 43 = .ok (.getfield 13, 3) := by decide +kernel
theorem dX8_undo_46 : decode cX8_undo 46 = .ok (.bipush 24, 2) := by decide +kernel
theorem dX8_undo_48 : decode cX8_undo 48 = .ok (.aload_n 0, 1) := by decide +kernel
theorem dX8_undo_49 : decode cX8_undo 49 = .ok (.getfield 50, 3) := by decide +kernel
theorem dX8_undo_52 : decode cX8_undo 52 = .ok (.imul, 1) := by decide +kernel
theorem dX8_undo_53 : decode cX8_undo 53 = .ok (.iload_n 2, 1) := by decide +kernel
theorem dX8_undo_54 : decode cX8_undo 54 = .ok (.iadd, 1) := by decide +kernel
theorem dX8_undo_55 : decode cX8_undo 55 = .ok (.iaload, 1) := by decide +kernel
theorem dX8_undo_56 : decode cX8_undo 56 = .ok (.iastore, 1) := by decide +kernel
theorem dX8_undo_57 : decode cX8_undo 57 = .ok (.iinc 2 1, 3) := by decide +kernel
theorem dX8_undo_60 : decode cX8_undo 60 = .ok (.goto (-33), 3) := by decide +kernel
theorem dX8_undo_63 : decode cX8_undo 63 = .ok (.aload_n 0, 1) := by decide +kernel
theorem dX8_undo_64 : decode cX8_undo 64 = .ok (.getfield 50, 3) := by decide +kernel
theorem dX8_undo_67 : decode cX8_undo 67 = .ok (.ireturn, 1) := by decide +kernel
theorem dX8_manyTold_0 : decode cX8_manyTold 0 = .ok (.iconst 0, 1) := by decide +kernel
theorem dX8_manyTold_1 : decode cX8_manyTold 1 = .ok (.istore_n 3, 1) := by decide +kernel
theorem dX8_manyTold_2 : decode cX8_manyTold 2 = .ok (.iload_n 1, 1) := by decide +kernel
theorem dX8_manyTold_3 : decode cX8_manyTold 3 = .ok (.istore 4, 2) := by decide +kernel
theorem dX8_manyTold_5 : decode cX8_manyTold 5 = .ok (.iload 4, 2) := by decide +kernel
theorem dX8_manyTold_7 : decode cX8_manyTold 7 = .ok (.iload_n 2, 1) := by decide +kernel
theorem dX8_manyTold_8 : decode cX8_manyTold 8 = .ok (.if_icmp .ge 29, 3) := by decide +kernel
theorem dX8_manyTold_11 : decode cX8_manyTold 11 = .ok (.iload_n 3, 1) := by decide +kernel
theorem dX8_manyTold_12 : decode cX8_manyTold 12 = .ok (.aload_n 0, 1) := by decide +kernel
theorem dX8_manyTold_13 : decode cX8_manyTold 13 = .ok (.getfield 7, 3) := by decide +kernel
theorem dX8_manyTold_16 : decode cX8_manyTold 16 = .ok (.iload 4, 2) := by decide +kernel
theorem dX8_manyTold_18 : decode cX8_manyTold 18 = .ok (.iaload, 1) := by decide +kernel
theorem dX8_manyTold_19 : decode cX8_manyTold 19 = .ok (.bipush (-9), 2) := by decide +kernel
theorem dX8_manyTold_21 : decode cX8_manyTold 21 = .ok (.if_icmp .eq 7, 3) := by decide +kernel
theorem dX8_manyTold_24 : decode cX8_manyTold 24 = .ok (.iconst 1, 1) := by decide +kernel
theorem dX8_manyTold_25 : decode cX8_manyTold 25 = .ok (.goto 4, 3) := by decide +kernel
theorem dX8_manyTold_28 : decode cX8_manyTold 28 = .ok (.iconst 0, 1) := by decide +kernel
theorem dX8_manyTold_29 : decode cX8_manyTold 29 = .ok (.iadd, 1) := by decide +kernel
theorem dX8_manyTold_30 : decode cX8_manyTold 30 = .ok (.istore_n 3, 1) := by decide +kernel
theorem dX8_manyTold_31 : decode cX8_manyTold 31 = .ok (.iinc 4 1, 3) := by decide +kernel
theorem dX8_manyTold_34 : decode cX8_manyTold 34 = .ok (.goto (-29), 3) := by decide +kernel
theorem dX8_manyTold_37 : decode cX8_manyTold 37 = .ok (.iload_n 3, 1) := by decide +kernel
theorem dX8_manyTold_38 : decode cX8_manyTold 38 = .ok (.ireturn, 1) := by decide +kernel
set_option maxRecDepth 20000 in
theorem ggX8_manyWithWord_X8_findNorms : GoodIn wsX8_manyWithWord wsX8_findNorms := goodIn_r _ [6, 1, 7, 8, 9, 10, 5, 11, 12, 13, 14, 15, 16, 17, 18, 19, 20, 21, 22, 23, 24, 25, 26, 27, 28, 29, 30, 31, 32, 33, 34, 35] (by decide +kernel) (by decide +kernel)
set_option maxRecDepth 20000 in
theorem gX8_manyWithWord_X8_findNorms : GoodIn wsX8_manyWithWord (wsV RX8 94 RX8 yX8_findNorms wsX8_findNorms) := goodIn_app (goodIn_of _ (by decide +kernel)) ggX8_manyWithWord_X8_findNorms
theorem dX8_manyWithWord_0 : decode cX8_manyWithWord 0 = .ok (.aload_n 0, 1) := by decide +kernel
theorem dX8_manyWithWord_1 : decode cX8_manyWithWord 1 = .ok (.invokevirtual 94, 3) := by decide +kernel
theorem dX8_manyWithWord_4 : decode cX8_manyWithWord 4 = .ok (.iconst 0, 1) := by decide +kernel
theorem dX8_manyWithWord_5 : decode cX8_manyWithWord 5 = .ok (.istore_n 1, 1) := by decide +kernel
theorem dX8_manyWithWord_6 : decode cX8_manyWithWord 6 = .ok (.iconst 0, 1) := by decide +kernel
theorem dX8_manyWithWord_7 : decode cX8_manyWithWord 7 = .ok (.istore_n 2, 1) := by decide +kernel
theorem dX8_manyWithWord_8 : decode cX8_manyWithWord 8 = .ok (.iload_n 2, 1) := by decide +kernel
theorem dX8_manyWithWord_9 : decode cX8_manyWithWord 9 = .ok (.bipush 6, 2) := by decide +kernel
theorem dX8_manyWithWord_11 : decode cX8_manyWithWord 11 = .ok (.if_icmp .ge 28, 3) := by decide +kernel
theorem dX8_manyWithWord_14 : decode cX8_manyWithWord 14 = .ok (.iload_n 1, 1) := by decide +kernel
theorem dX8_manyWithWord_15 : decode cX8_manyWithWord 15 = .ok (.aload_n 0, 1) := by decide +kernel
theorem dX8_manyWithWord_16 : decode cX8_manyWithWord 16 = .ok (.getfield 19, 3) := by decide +kernel
theorem dX8_manyWithWord_19 : decode cX8_manyWithWord 19 = .ok (.iload_n 2, 1) := by decide +kernel
theorem dX8_manyWithWord_20 : decode cX8_manyWithWord 20 = .ok (.iaload, 1) := by decide +kernel
theorem dX8_manyWithWord_21 : decode cX8_manyWithWord 21 = .ok (.bipush (-9), 2) := by decide +kernel
theorem dX8_manyWithWord_23 : decode cX8_manyWithWord 23 = .ok (.if_icmp .eq 7, 3) := by decide +kernel
theorem dX8_manyWithWord_26 : decode cX8_manyWithWord 26 = .ok (.iconst 1, 1) := by decide +kernel
theorem dX8_manyWithWord_27 : decode cX8_manyWithWord 27 = .ok (.goto 4, 3) := by decide +kernel
theorem dX8_manyWithWord_30 : decode cX8_manyWithWord 30 = .ok (.iconst 0, 1) := by decide +kernel
theorem dX8_manyWithWord_31 : decode cX8_manyWithWord 31 = .ok (.iadd, 1) := by decide +kernel
theorem dX8_manyWithWord_32 : decode cX8_manyWithWord 32 = .ok (.istore_n 1, 1) := by decide +kernel
theorem dX8_manyWithWord_33 : decode cX8_manyWithWord 33 = .ok (.iinc 2 1, 3) := by decide +kernel
theorem dX8_manyWithWord_36 : decode cX8_manyWithWord 36 = .ok (.goto (-28), 3) := by decide +kernel
theorem dX8_manyWithWord_39 : decode cX8_manyWithWord 39 = .ok (.iload_n 1, 1) := by decide +kernel
theorem dX8_manyWithWord_40 : decode cX8_manyWithWord 40 = .ok (.ireturn, 1) := by decide +kernel
set_option maxRecDepth 20000 in
theorem ggX8_many_X8_manyTold : GoodIn wsX8_many wsX8_manyTold := goodIn_r _ [6, 7, 74, 75, 76, 77, 78, 79, 80, 81, 82, 83, 84, 85, 86, 87] (by decide +kernel) (by decide +kernel)
set_option maxRecDepth 20000 in
theorem gX8_many_X8_manyTold : GoodIn wsX8_many (wsV RX8 166 RX8 yX8_manyTold wsX8_manyTold) := goodIn_app (goodIn_of _ (by decide +kernel)) ggX8_many_X8_manyTold
set_option maxRecDepth 20000 in
theorem ggX8_many_X8_manyWithWord : GoodIn wsX8_many wsX8_manyWithWord := goodIn_r _ [11, 12, 13, 14, 15, 5, 16, 7, 17, 18, 19, 20, 21, 22, 23, 24, 25, 26, 27, 28, 29, 30, 74, 75, 76, 77, 78, 79, 80, 81, 82, 83, 84, 85, 86, 87] (by decide +kernel) (by decide +kernel)
set_option maxRecDepth 20000 in
theorem gX8_many_X8_manyWithWord : GoodIn wsX8_many (wsV RX8 169 RX8 yX8_manyWithWord wsX8_manyWithWord) := goodIn_app (goodIn_of _ (by decide +kernel)) ggX8_many_X8_manyWithWord
set_option maxRecDepth 20000 in
theorem ggX8_many_X8_brokenNow : GoodIn wsX8_many wsX8_brokenNow := goodIn_r _ [34, 35, 36, 37, 5, 38, 39, 40, 41, 42, 7, 43, 44, 45, 46, 47, 48, 49, 50, 21, 22, 23, 24, 25, 26, 27, 51, 52, 53, 54, 28, 29, 30, 55, 56, 57, 58, 59, 60, 61, 62, 63, 64, 65, 66, 67, 68, 69, 70, 74, 75, 76, 77, 78, 79, 80, 81, 82, 83, 84, 85, 86, 87] (by decide +kernel) (by decide +kernel)
set_option maxRecDepth 20000 in
theorem gX8_many_X8_brokenNow : GoodIn wsX8_many (wsV RX8 159 RX8 yX8_brokenNow wsX8_brokenNow) := goodIn_app (goodIn_of _ (by decide +kernel)) ggX8_many_X8_brokenNow
set_option maxRecDepth 20000 in
theorem ggX8_many_X8_sizeOf : GoodIn wsX8_many wsX8_sizeOf := goodIn_r _ [73] (by decide +kernel) (by decide +kernel)
set_option maxRecDepth 20000 in
theorem gX8_many_X8_sizeOf : GoodIn wsX8_many (va_wsS RX8 163 yX8_sizeOf wsX8_sizeOf) := goodIn_app (goodIn_of _ (by decide +kernel)) ggX8_many_X8_sizeOf
theorem dX8_many_0 : decode cX8_many 0 = .ok (.iload_n 1, 1) := by decide +kernel
theorem dX8_many_1 : decode cX8_many 1 = .ok (.tableswitch 70 0 4 #[35, 43, 52, 57, 62], 35) := by decide +kernel
theorem dX8_many_36 : decode cX8_many 36 = .ok (.aload_n 0, 1) := by decide +kernel
theorem dX8_many_37 : decode cX8_many 37 = .ok (.iconst 0, 1) := by decide +kernel
theorem dX8_many_38 : decode cX8_many 38 = .ok (.bipush 18, 2) := by decide +kernel
theorem dX8_many_40 : decode cX8_many 40 = .ok (.invokevirtual 166, 3) := by decide +kernel
theorem dX8_many_43 : decode cX8_many 43 = .ok (.ireturn, 1) := by decide +kernel
theorem dX8_many_44 : decode cX8_many 44 = .ok (.aload_n 0, 1) := by decide +kernel
theorem dX8_many_45 : decode cX8_many 45 = .ok (.bipush 18, 2) := by decide +kernel
theorem dX8_many_47 : decode cX8_many 47 = .ok (.bipush 24, 2) := by decide +kernel
theorem dX8_many_49 : decode cX8_many 49 = .ok (.invokevirtual 166, 3) := by decide +kernel
theorem dX8_many_52 : decode cX8_many 52 = .ok (.ireturn, 1) := by decide +kernel
theorem dX8_many_53 : decode cX8_many 53 = .ok (.aload_n 0, 1) := by decide +kernel
theorem dX8_many_54 : decode cX8_many 54 = .ok (.invokevirtual 169, 3) := by decide +kernel
theorem dX8_many_57 : decode cX8_many 57 = .ok (.ireturn, 1) := by decide +kernel
theorem dX8_many_58 : decode cX8_many 58 = .ok (.aload_n 0, 1) := by decide +kernel
theorem dX8_many_59 : decode cX8_many 59 = .ok (.getfield 50, 3) := by decide +kernel
theorem dX8_many_62 : decode cX8_many 62 = .ok (.ireturn, 1) := by decide +kernel
theorem dX8_many_63 : decode cX8_many 63 = .ok (.aload_n 0, 1) := by decide +kernel
theorem dX8_many_64 : decode cX8_many 64 = .ok (.invokevirtual 159, 3) := by decide +kernel
theorem dX8_many_67 : decode cX8_many 67 = .ok (.invokestatic 163, 3) := by decide +kernel
theorem dX8_many_70 : decode cX8_many 70 = .ok (.ireturn, 1) := by decide +kernel
theorem dX8_many_71 : decode cX8_many 71 = .ok (.bipush (-2), 2) := by decide +kernel
theorem dX8_many_73 : decode cX8_many 73 = .ok (.ireturn, 1) := by decide +kernel
theorem dJ6_bitCount_0f7a4_0 : decode cJ6_bitCount_0f7a4 0 = .ok (.iload_n 0, 1) := by decide +kernel
theorem dJ6_bitCount_0f7a4_1 : decode cJ6_bitCount_0f7a4 1 = .ok (.iload_n 0, 1) := by decide +kernel
theorem dJ6_bitCount_0f7a4_2 : decode cJ6_bitCount_0f7a4 2 = .ok (.iconst 1, 1) := by decide +kernel
theorem dJ6_bitCount_0f7a4_3 : decode cJ6_bitCount_0f7a4 3 = .ok (.iushr, 1) := by decide +kernel
theorem dJ6_bitCount_0f7a4_4 : decode cJ6_bitCount_0f7a4 4 = .ok (.ldc_w 265, 3) := by decide +kernel
theorem dJ6_bitCount_0f7a4_7 : decode cJ6_bitCount_0f7a4 7 = .ok (.iand, 1) := by decide +kernel
theorem dJ6_bitCount_0f7a4_8 : decode cJ6_bitCount_0f7a4 8 = .ok (.isub, 1) := by decide +kernel
theorem dJ6_bitCount_0f7a4_9 : decode cJ6_bitCount_0f7a4 9 = .ok (.istore_n 0, 1) := by decide +kernel
theorem dJ6_bitCount_0f7a4_10 : decode cJ6_bitCount_0f7a4 10 = .ok (.iload_n 0, 1) := by decide +kernel
theorem dJ6_bitCount_0f7a4_11 : decode cJ6_bitCount_0f7a4 11 = .ok (.ldc_w 266, 3) := by decide +kernel
theorem dJ6_bitCount_0f7a4_14 : decode cJ6_bitCount_0f7a4 14 = .ok (.iand, 1) := by decide +kernel
theorem dJ6_bitCount_0f7a4_15 : decode cJ6_bitCount_0f7a4 15 = .ok (.iload_n 0, 1) := by decide +kernel
theorem dJ6_bitCount_0f7a4_16 : decode cJ6_bitCount_0f7a4 16 = .ok (.iconst 2, 1) := by decide +kernel
theorem dJ6_bitCount_0f7a4_17 : decode cJ6_bitCount_0f7a4 17 = .ok (.iushr, 1) := by decide +kernel
theorem dJ6_bitCount_0f7a4_18 : decode cJ6_bitCount_0f7a4 18 = .ok (.ldc_w 266, 3) := by decide +kernel
theorem dJ6_bitCount_0f7a4_21 : decode cJ6_bitCount_0f7a4 21 = .ok (.iand, 1) := by decide +kernel
theorem dJ6_bitCount_0f7a4_22 : decode cJ6_bitCount_0f7a4 22 = .ok (.iadd, 1) := by decide +kernel
theorem dJ6_bitCount_0f7a4_23 : decode cJ6_bitCount_0f7a4 23 = .ok (.istore_n 0, 1) := by decide +kernel
theorem dJ6_bitCount_0f7a4_24 : decode cJ6_bitCount_0f7a4 24 = .ok (.iload_n 0, 1) := by decide +kernel
theorem dJ6_bitCount_0f7a4_25 : decode cJ6_bitCount_0f7a4 25 = .ok (.iload_n 0, 1) := by decide +kernel
theorem dJ6_bitCount_0f7a4_26 : decode cJ6_bitCount_0f7a4 26 = .ok (.iconst 4, 1) := by decide +kernel
theorem dJ6_bitCount_0f7a4_27 : decode cJ6_bitCount_0f7a4 27 = .ok (.iushr, 1) := by decide +kernel
theorem dJ6_bitCount_0f7a4_28 : decode cJ6_bitCount_0f7a4 28 = .ok (.iadd, 1) := by decide +kernel
theorem dJ6_bitCount_0f7a4_29 : decode cJ6_bitCount_0f7a4 29 = .ok (.ldc_w 267, 3) := by decide +kernel
theorem dJ6_bitCount_0f7a4_32 : decode cJ6_bitCount_0f7a4 32 = .ok (.iand, 1) := by decide +kernel
theorem dJ6_bitCount_0f7a4_33 : decode cJ6_bitCount_0f7a4 33 = .ok (.istore_n 0, 1) := by decide +kernel
theorem dJ6_bitCount_0f7a4_34 : decode cJ6_bitCount_0f7a4 34 = .ok (.iload_n 0, 1) := by decide +kernel
theorem dJ6_bitCount_0f7a4_35 : decode cJ6_bitCount_0f7a4 35 = .ok (.iload_n 0, 1) := by decide +kernel
theorem dJ6_bitCount_0f7a4_36 : decode cJ6_bitCount_0f7a4 36 = .ok (.bipush 8, 2) := by decide +kernel
theorem dJ6_bitCount_0f7a4_38 : decode cJ6_bitCount_0f7a4 38 = .ok (.iushr, 1) := by decide +kernel
theorem dJ6_bitCount_0f7a4_39 : decode cJ6_bitCount_0f7a4 39 = .ok (.iadd, 1) := by decide +kernel
theorem dJ6_bitCount_0f7a4_40 : decode cJ6_bitCount_0f7a4 40 = .ok (.istore_n 0, 1) := by decide +kernel
theorem dJ6_bitCount_0f7a4_41 : decode cJ6_bitCount_0f7a4 41 = .ok (.iload_n 0, 1) := by decide +kernel
theorem dJ6_bitCount_0f7a4_42 : decode cJ6_bitCount_0f7a4 42 = .ok (.iload_n 0, 1) := by decide +kernel
theorem dJ6_bitCount_0f7a4_43 : decode cJ6_bitCount_0f7a4 43 = .ok (.bipush 16, 2) := by decide +kernel
theorem dJ6_bitCount_0f7a4_45 : decode cJ6_bitCount_0f7a4 45 = .ok (.iushr, 1) := by decide +kernel
theorem dJ6_bitCount_0f7a4_46 : decode cJ6_bitCount_0f7a4 46 = .ok (.iadd, 1) := by decide +kernel
theorem dJ6_bitCount_0f7a4_47 : decode cJ6_bitCount_0f7a4 47 = .ok (.istore_n 0, 1) := by decide +kernel
theorem dJ6_bitCount_0f7a4_48 : decode cJ6_bitCount_0f7a4 48 = .ok (.iload_n 0, 1) := by decide +kernel
theorem dJ6_bitCount_0f7a4_49 : decode cJ6_bitCount_0f7a4 49 = .ok (.bipush 63, 2) := by decide +kernel
theorem dJ6_bitCount_0f7a4_51 : decode cJ6_bitCount_0f7a4 51 = .ok (.iand, 1) := by decide +kernel
theorem dJ6_bitCount_0f7a4_52 : decode cJ6_bitCount_0f7a4 52 = .ok (.ireturn, 1) := by decide +kernel
theorem dJ9_max_7cf53_0 : decode cJ9_max_7cf53 0 = .ok (.iload_n 0, 1) := by decide +kernel
theorem dJ9_max_7cf53_1 : decode cJ9_max_7cf53 1 = .ok (.iload_n 1, 1) := by decide +kernel
theorem dJ9_max_7cf53_2 : decode cJ9_max_7cf53 2 = .ok (.if_icmp .lt 7, 3) := by decide +kernel
theorem dJ9_max_7cf53_5 : decode cJ9_max_7cf53 5 = .ok (.iload_n 0, 1) := by decide +kernel
theorem dJ9_max_7cf53_6 : decode cJ9_max_7cf53 6 = .ok (.goto 4, 3) := by decide +kernel
theorem dJ9_max_7cf53_9 : decode cJ9_max_7cf53 9 = .ok (.iload_n 1, 1) := by decide +kernel
theorem dJ9_max_7cf53_10 : decode cJ9_max_7cf53 10 = .ok (.ireturn, 1) := by decide +kernel
theorem dJ9_min_7cf53_0 : decode cJ9_min_7cf53 0 = .ok (.iload_n 0, 1) := by decide +kernel
theorem dJ9_min_7cf53_1 : decode cJ9_min_7cf53 1 = .ok (.iload_n 1, 1) := by decide +kernel
theorem dJ9_min_7cf53_2 : decode cJ9_min_7cf53 2 = .ok (.if_icmp .gt 7, 3) := by decide +kernel
theorem dJ9_min_7cf53_5 : decode cJ9_min_7cf53 5 = .ok (.iload_n 0, 1) := by decide +kernel
theorem dJ9_min_7cf53_6 : decode cJ9_min_7cf53 6 = .ok (.goto 4, 3) := by decide +kernel
theorem dJ9_min_7cf53_9 : decode cJ9_min_7cf53 9 = .ok (.iload_n 1, 1) := by decide +kernel
theorem dJ9_min_7cf53_10 : decode cJ9_min_7cf53 10 = .ok (.ireturn, 1) := by decide +kernel
theorem dJ7_fill_53178_0 : decode cJ7_fill_53178 0 = .ok (.iconst 0, 1) := by decide +kernel
theorem dJ7_fill_53178_1 : decode cJ7_fill_53178 1 = .ok (.istore_n 2, 1) := by decide +kernel
theorem dJ7_fill_53178_2 : decode cJ7_fill_53178 2 = .ok (.aload_n 0, 1) := by decide +kernel
theorem dJ7_fill_53178_3 : decode cJ7_fill_53178 3 = .ok (.arraylength, 1) := by decide +kernel
theorem dJ7_fill_53178_4 : decode cJ7_fill_53178 4 = .ok (.istore_n 3, 1) := by decide +kernel
theorem dJ7_fill_53178_5 : decode cJ7_fill_53178 5 = .ok (.iload_n 2, 1) := by decide +kernel
theorem dJ7_fill_53178_6 : decode cJ7_fill_53178 6 = .ok (.iload_n 3, 1) := by decide +kernel
theorem dJ7_fill_53178_7 : decode cJ7_fill_53178 7 = .ok (.if_icmp .ge 13, 3) := by decide +kernel
theorem dJ7_fill_53178_10 : decode cJ7_fill_53178 10 = .ok (.aload_n 0, 1) := by decide +kernel
theorem dJ7_fill_53178_11 : decode cJ7_fill_53178 11 = .ok (.iload_n 2, 1) := by decide +kernel
theorem dJ7_fill_53178_12 : decode cJ7_fill_53178 12 = .ok (.iload_n 1, 1) := by decide +kernel
theorem dJ7_fill_53178_13 : decode cJ7_fill_53178 13 = .ok (.iastore, 1) := by decide +kernel
theorem dJ7_fill_53178_14 : decode cJ7_fill_53178 14 = .ok (.iinc 2 1, 3) := by decide +kernel
theorem dJ7_fill_53178_17 : decode cJ7_fill_53178 17 = .ok (.goto (-12), 3) := by decide +kernel
theorem dJ7_fill_53178_20 : decode cJ7_fill_53178 20 = .ok (.return_, 1) := by decide +kernel
end
section
/-! THE LAYER. One world of 111 cells, all made by the two constructors; a cell has a number k, its address is G.2.2 k; its ints are M k. -/
abbrev zz_M : Type := Nat → Nat → Int32
abbrev zz_C : Type := va_G × (Nat → ClassId) × (Nat → Nat)
/-- a Table: itself, its rules at k + 1, its claims at k + 2 -/
def zz_tab (k : Nat) : Bool := Nat.beq k 1 || (Nat.ble 40 k && Nat.blt k 100 && Nat.beq (k % 3) 1)
/-- a Row: itself, its signs at k + 1 -/
def zz_row (k : Nat) : Bool := Nat.beq k 7 || Nat.beq k 9 || Nat.beq k 36 || Nat.beq k 38 || (Nat.ble 24 k && Nat.blt k 36 && Nat.beq (k % 2) 0)
/-- how long an int array is -/
def zz_len (k : Nat) : Nat :=
  if k = 2 then 18 else if k = 3 then 6 else if k = 8 then 33 else if k = 10 then 12 else if k = 12 then 6 else if k < 22 then 13 else if k < 36 then 243 else if k < 40 then 2187
  else if k < 100 then (if k % 3 = 2 then 18 else 6)
  else if k = 101 then 24 else if k = 102 then 480 else if k = 103 then 64 else if k = 104 then 6 else if k = 105 then 78 else if k < 108 then 13 else 2400
def zz_rf (f : Nat → Nat) : (Nat → Int32) ⊕ (Nat → Int64) ⊕ (Nat → UInt32) ⊕ (Nat → UInt64) ⊕ (Nat → Option Nat) := .inr (.inr (.inr (.inr (fun i => some (f i)))))
/-- what the cell k holds, its ints being v -/
def zz_F (G : zz_C) (k : Nat) (v : Nat → Int32) : va_E :=
  bif zz_tab k then .inr (6, [.ref (G.2.2 (k + 1)), .ref (G.2.2 (k + 2))])
  else bif zz_row k then .inr (5, [.ref (G.2.2 (k + 1)), .int (v 0)])
  else match k with
  | 0 => .inr (7, [.ref (G.2.2 1), .ref (G.2.2 4), .ref (G.2.2 6), .ref (G.2.2 11), .ref (G.2.2 13), .ref (G.2.2 22), .ref (G.2.2 36), .ref (G.2.2 38)])
  | 4 => .inr (3, [.ref (G.2.2 5), .int (v 0), .int (v 1)])
  | 5 => .inl (G.2.1 2, 20, zz_rf (fun i => G.2.2 (40 + 3 * i)))
  | 6 => .inr (4, [.ref (G.2.2 7), .ref (G.2.2 9)])
  | 11 => .inr (2, [.ref (G.2.2 12)])
  | 13 => .inr (0, [.ref (G.2.2 14), .ref (G.2.2 15)])
  | 14 => .inl (G.2.1 3, 6, zz_rf (fun i => G.2.2 (16 + i)))
  | 22 => .inr (1, [.ref (G.2.2 23)])
  | 23 => .inl (G.2.1 1, 6, zz_rf (fun i => G.2.2 (24 + 2 * i)))
  | 100 => .inr (8, [.ref (G.2.2 101), .int (v 0), .ref (G.2.2 102), .int (v 1), .ref (G.2.2 103), .ref (G.2.2 104), .ref (G.2.2 105), .ref (G.2.2 106), .ref (G.2.2 107), .int (v 2), .int (v 3), .ref (G.2.2 108), .ref (G.2.2 109), .ref (G.2.2 110)])
  | k => .inl (G.2.1 0, zz_len k, .inl v)
theorem zz_F_tab {G : zz_C} {k : Nat} {v : Nat → Int32} (h : zz_tab k = true) : zz_F G k v = .inr (6, [.ref (G.2.2 (k + 1)), .ref (G.2.2 (k + 2))]) := by
  unfold zz_F; rw [h]; rfl
theorem zz_F_row {G : zz_C} {k : Nat} {v : Nat → Int32} (h : zz_row k = true) (h2 : zz_tab k = false) : zz_F G k v = .inr (5, [.ref (G.2.2 (k + 1)), .int (v 0)]) := by
  unfold zz_F; rw [h, h2]; rfl
/-- the world -/
def zz_W (G : zz_C) (M : zz_M) : va_W := (List.range 111).map (fun k => (G.2.2 k, zz_F G k (M k)))
def zz_up (M : zz_M) (k : Nat) (f : Nat → Int32) : zz_M := fun j => if j = k then f else M j
theorem zz_up_same (M : zz_M) (k : Nat) (f : Nat → Int32) : zz_up M k f k = f := if_pos rfl
theorem zz_up_ne (M : zz_M) {k j : Nat} (f : Nat → Int32) (h : j ≠ k) : zz_up M k f j = M j := if_neg h
theorem zz_W_get (G : zz_C) (M : zz_M) {k : Nat} (h : k < 111) : (zz_W G M)[k]? = some (G.2.2 k, zz_F G k (M k)) := by
  unfold zz_W
  rw [List.getElem?_map, List.getElem?_range h]
  rfl
theorem zz_W_set (G : zz_C) (M : zz_M) {k : Nat} (h : k < 111) (f : Nat → Int32) : (zz_W G M).set k (G.2.2 k, zz_F G k f) = zz_W G (zz_up M k f) := by
  apply List.ext_getElem?
  intro j
  by_cases hj : j < 111
  · rw [zz_W_get G _ hj]
    by_cases e : j = k
    · subst e
      rw [List.getElem?_set_self (by unfold zz_W; rw [List.length_map, List.length_range]; exact h), zz_up_same]
    · rw [List.getElem?_set_ne (Ne.symm e), zz_W_get G _ hj, zz_up_ne _ _ e]
  · rw [List.getElem?_eq_none (by rw [List.length_set]; unfold zz_W; rw [List.length_map, List.length_range]; omega), List.getElem?_eq_none (by unfold zz_W; rw [List.length_map, List.length_range]; omega)]
def zz_J (G : zz_C) : Prop := ∀ i j : Nat, i < 111 → j < 111 → G.2.2 i = G.2.2 j → i = j
def zz_A (G : zz_C) : Nat → Prop := fun q => ∃ k, k < 111 ∧ q = G.2.2 k
theorem zz_W_of {G : zz_C} {M : zz_M} {k : Nat} {q : Nat × va_E} (h : (zz_W G M)[k]? = some q) : k < 111 ∧ q = (G.2.2 k, zz_F G k (M k)) := by
  have hl := (List.getElem?_eq_some_iff.mp h).1
  unfold zz_W at hl
  rw [List.length_map, List.length_range] at hl
  rw [zz_W_get G M hl] at h
  exact ⟨hl, (Option.some.inj h).symm⟩
theorem zz_D {G : zz_C} {A : Nat → Prop} (hJ : zz_J G) (hA : ∀ k, k < 111 → A (G.2.2 k)) (M : zz_M) : va_D A (zz_W G M) := by
  refine ⟨fun i j x y hi hj e => ?_, fun k q hk => ?_⟩
  · obtain ⟨h1, rfl⟩ := zz_W_of hi
    obtain ⟨h2, rfl⟩ := zz_W_of hj
    exact hJ i j h1 h2 e
  · obtain ⟨h1, rfl⟩ := zz_W_of hk
    exact hA k h1
abbrev zz_T (G : zz_C) : List (ClassId × FieldType) := [(G.2.1 0, .int), (G.2.1 1, .object "FirstSigns$Row"), (G.2.1 2, .object "FirstSigns$Table"), (G.2.1 3, .array .int)]
/-- links between nest mates, which are no words of a method -/
def zz_N (U : State) : Prop := va_Nw (.methodLinkNest RX0 43 yX7_isSign "FirstSigns") U ∧ va_Nw (.methodLinkNest RX1 36 yX7_isSign "FirstSigns") U ∧ va_Nw (.methodLinkNest RX2 42 yX7_isSign "FirstSigns") U ∧ va_Nw (.methodLinkNest RX6 24 yX7_isSign "FirstSigns") U ∧ va_Nw (.methodLinkNest RX6 28 yX7_isLetter "FirstSigns") U
theorem zz_N.warm {s U : State} (hW : s.WarmedH U.vm) (h : zz_N s) : zz_N U := ⟨va_Nw.warmM hW h.1, va_Nw.warmM hW h.2.1, va_Nw.warmM hW h.2.2.1, va_Nw.warmM hW h.2.2.2.1, va_Nw.warmM hW h.2.2.2.2⟩
theorem zz_N.same {u U : State} (hv : u.vm = U.vm) (h : zz_N u) : zz_N U := ⟨va_Nw.same rfl hv h.1, va_Nw.same rfl hv h.2.1, va_Nw.same rfl hv h.2.2.1, va_Nw.same rfl hv h.2.2.2.1, va_Nw.same rfl hv h.2.2.2.2⟩
def zz_K (G : zz_C) (U : State) : Prop := va_K G.1 vwCl (zz_T G) U ∧ zz_N U
/-- a contract's start, and the world behind it -/
def zz_P (G : zz_C) (M : zz_M) (av : List Value) : Array Value → State → Prop := va_Pc av (fun U => va_P G.1 vwCl (zz_W G M) U.heap ∧ zz_K G U)
def zz_B (G : zz_C) : zz_M → State → Prop := fun M t => va_P G.1 vwCl (zz_W G M) t.heap
abbrev zz_Qi (G : zz_C) (post : Int32 → zz_M → Prop) : Array Value → State → Outcome → State → Prop := va_Qi post (zz_B G) (zz_A G)
abbrev zz_Ql (G : zz_C) (post : Int64 → zz_M → Prop) : Array Value → State → Outcome → State → Prop := va_Ql post (zz_B G) (zz_A G)
abbrev zz_Qv (G : zz_C) (post : zz_M → Prop) : Array Value → State → Outcome → State → Prop := va_Qv post (zz_B G) (zz_A G)
theorem zz_P_blind {G : zz_C} {M : zz_M} {av : List Value} : FrameBlind (zz_P G M av) := fun a U g mk h => ⟨h.1, h.2.1, va_K.moved (u := U) (U := U.calling g mk a) (Vm.Alike.refl U.vm) h.2.2.1, zz_N.same (u := U) (U := U.calling g mk a) rfl h.2.2.2⟩
theorem zz_P_at {G : zz_C} {M : zz_M} {av : List Value} {s U : State} {H : Heap} (hP : va_P G.1 vwCl (zz_W G M) H) (hK : zz_K G s) (hU : U.heap = H) (hW : s.WarmedH U.vm) : zz_P G M av av.toArray U := ⟨rfl, by rw [hU]; exact hP, va_K.moved hW.alike hK.1, hK.2.warm hW⟩
/-! locals -/
def zz_get : List (Nat × Value) → Nat → Option Value
  | [], _ => none
  | (j, v) :: l, i => bif Nat.beq j i then some v else zz_get l i
theorem zz_get_has {ls : Array Slot} {nL i : Nat} {v : Value} : ∀ {lv : List (Nat × Value)}, lv_has ls nL lv → zz_get lv i = some v → ls[i]? = some (.val v)
  | [], _, h => by cases h
  | (j, w) :: l, h, hg => by
    unfold zz_get at hg
    cases hb : Nat.beq j i with
    | true =>
      rw [hb] at hg
      have hg : some w = some v := hg
      cases hg
      have := Nat.eq_of_beq_eq_true hb
      subst this
      exact h.2.2 (j, _) List.mem_cons_self
    | false =>
      rw [hb] at hg
      exact zz_get_has (lv := l) ⟨h.1, h.2.1, fun q hq => h.2.2 q (List.mem_cons_of_mem _ hq)⟩ hg
/-- drop what a store at i (of n words) overwrites -/
def zz_del (i n : Nat) : List (Nat × Value) → List (Nat × Value)
  | [] => []
  | (j, v) :: l => bif (Nat.beq j i || (Nat.beq (j + 1) i && Nat.beq v.category 2)) || (Nat.beq n 2 && Nat.beq j (i + 1)) then zz_del i n l else (j, v) :: zz_del i n l
theorem zz_del_mem {i n : Nat} {q : Nat × Value} : ∀ {l : List (Nat × Value)}, q ∈ zz_del i n l → q ∈ l ∧ Nat.beq q.1 i = false ∧ (Nat.beq (q.1 + 1) i && Nat.beq q.2.category 2) = false ∧ (Nat.beq n 2 && Nat.beq q.1 (i + 1)) = false
  | [], h => by cases h
  | (j, v) :: l, h => by
    unfold zz_del at h
    cases hb : ((Nat.beq j i || (Nat.beq (j + 1) i && Nat.beq v.category 2)) || (Nat.beq n 2 && Nat.beq j (i + 1))) with
    | true =>
      rw [hb] at h
      obtain ⟨h1, h2⟩ := zz_del_mem (l := l) h
      exact ⟨List.mem_cons_of_mem _ h1, h2⟩
    | false =>
      rw [hb] at h
      rcases List.mem_cons.mp h with rfl | h
      · rw [Bool.or_eq_false_iff, Bool.or_eq_false_iff] at hb
        exact ⟨List.mem_cons_self, hb.1.1, hb.1.2, hb.2⟩
      · obtain ⟨h1, h2⟩ := zz_del_mem (l := l) h
        exact ⟨List.mem_cons_of_mem _ h1, h2⟩
def zz_ins (i : Nat) (v : Value) : List (Nat × Value) → List (Nat × Value)
  | [] => [(i, v)]
  | (j, w) :: l => bif Nat.blt i j then (i, v) :: (j, w) :: l else (j, w) :: zz_ins i v l
theorem zz_ins_mem {i : Nat} {v : Value} {q : Nat × Value} : ∀ {l : List (Nat × Value)}, q ∈ zz_ins i v l → q = (i, v) ∨ q ∈ l
  | [], h => by
    rcases List.mem_cons.mp h with h | h
    · exact Or.inl h
    · cases h
  | (j, w) :: l, h => by
    unfold zz_ins at h
    cases hb : Nat.blt i j with
    | true =>
      rw [hb] at h
      exact (List.mem_cons.mp h).imp id id
    | false =>
      rw [hb] at h
      rcases List.mem_cons.mp h with h | h
      · exact Or.inr (by rw [h]; exact List.mem_cons_self)
      · exact (zz_ins_mem (l := l) h).imp id (List.mem_cons_of_mem _)
def zz_set (i : Nat) (v : Value) (l : List (Nat × Value)) : List (Nat × Value) := zz_ins i v (zz_del i v.category l)
theorem zz_nb {a b : Nat} (h : Nat.beq a b = false) : a ≠ b := fun e => by subst e; rw [Nat.beq_refl] at h; cases h
theorem zz_bq (a b : Nat) : (a == b) = Nat.beq a b := by
  cases h : Nat.beq a b with
  | false => simpa using zz_nb h
  | true =>
    have := Nat.eq_of_beq_eq_true h
    subst this
    simp
theorem zz_set1 {i : Nat} {v : Value} {lv : List (Nat × Value)} (hv : v.category = 1) : ∀ q ∈ zz_set i v lv, q ∈ (i, v) :: lv.filter (fun q => !(q.1 == i) && !(q.1 + 1 == i && q.2.category == 2)) := by
  intro q hq
  rcases zz_ins_mem hq with rfl | hq
  · exact List.mem_cons_self
  · obtain ⟨h1, h2, h3, -⟩ := zz_del_mem hq
    refine List.mem_cons_of_mem _ (List.mem_filter.mpr ⟨h1, ?_⟩)
    have e1 : (q.1 == i) = false := by simpa using zz_nb h2
    have e2 : (q.1 + 1 == i && q.2.category == 2) = false := by rw [zz_bq, zz_bq]; exact h3
    rw [e1, e2]; rfl
theorem zz_set2 {i : Nat} {v : Value} {lv : List (Nat × Value)} (hv : v.category = 2) : ∀ q ∈ zz_set i v lv, q ∈ (i, v) :: lv.filter (fun q => !(q.1 == i) && (!(q.1 == i + 1) && !(q.1 + 1 == i && q.2.category == 2))) := by
  intro q hq
  rcases zz_ins_mem hq with rfl | hq
  · exact List.mem_cons_self
  · obtain ⟨h1, h2, h3, h4⟩ := zz_del_mem hq
    refine List.mem_cons_of_mem _ (List.mem_filter.mpr ⟨h1, ?_⟩)
    have e1 : (q.1 == i) = false := by simpa using zz_nb h2
    have e2 : (q.1 + 1 == i && q.2.category == 2) = false := by rw [zz_bq, zz_bq]; exact h3
    rw [hv] at h4
    have e3 : (q.1 == i + 1) = false := by rw [zz_bq]; exact h4
    rw [e1, e2, e3]; rfl
def zz_sub : List (Nat × Value) → List (Nat × Value) → Prop
  | [], _ => True
  | (i, v) :: l, lv => zz_get lv i = some v ∧ zz_sub l lv
theorem zz_sub_has {ls : Array Slot} {nL : Nat} {lv : List (Nat × Value)} (h : lv_has ls nL lv) : ∀ {l : List (Nat × Value)}, zz_sub l lv → lv_has ls nL l
  | [], _ => ⟨h.1, h.2.1, fun _ q => by cases q⟩
  | (i, v) :: l, hs => ⟨h.1, h.2.1, fun q hq => by
    rcases List.mem_cons.mp hq with rfl | hq
    · exact zz_get_has h hs.1
    · exact (zz_sub_has h hs.2).2.2 q hq⟩
theorem lv_has.mono {ls : Array Slot} {nL : Nat} {l l' : List (Nat × Value)} (h : lv_has ls nL l) (hs : ∀ q ∈ l', q ∈ l) : lv_has ls nL l' := ⟨h.1, h.2.1, fun q hq => h.2.2 q (hs q hq)⟩
section ZZ
variable {p : Program} {l : Launch} {e : Env} {R : Room} {s : State} {m : MethodId} {args : Array Value} {below : List Frame} {meth : Method} {c : Code} {cells slots : Nat} {Q : State → Prop}
variable {cc : ByteArray} {nL : Nat} {Ts : List Cond} {own : String} {G : zz_C} {A : Nat → Prop} {M : zz_M} {pc : Nat} {lv : List (Nat × Value)} {st : List Value}
/-- what stays the same over a method's body -/
def zz_E (p : Program) (R : Room) (s : State) (m : MethodId) (args : Array Value) (c : Code) (cells slots : Nat) (cc : ByteArray) (nL : Nat) (Ts : List Cond) (own : String) (G : zz_C) (A : Nat → Prop) : Prop :=
  p.tables.exec = Jvm.exec ∧ c.code = cc ∧ c.maxLocals = nL ∧ s.vm.findClass own = some m.cls ∧ (∀ w ∈ Ts, w.before args s = true) ∧ zz_J G ∧ zz_K G s ∧ (∀ k, k < 111 → A (G.2.2 k)) ∧ cells ≤ R.cells ∧ slots ≤ R.slots
/-- the machine, at pc with these locals and this stack, the world holding M, comes to Q -/
def zz_Z (p : Program) (l : Launch) (e : Env) (R : Room) (s : State) (m : MethodId) (args : Array Value) (below : List Frame) (meth : Method) (c : Code) (cells slots : Nat) (Q : State → Prop) (nL : Nat) (G : zz_C) (A : Nat → Prop) (M : zz_M) (pc : Nat) (lv : List (Nat × Value)) (st : List Value) : Prop :=
  ∀ (H : Heap) (locs : List Loc) (ls : Array Slot), va_P G.1 vwCl (zz_W G M) H → va_S A s.heap H locs → lv_has ls nL lv → W p l e R s m args below meth c H locs cells slots Q (F0 m pc ls st)
theorem zz_to {lv' : List (Nat × Value)} (k : zz_Z p l e R s m args below meth c cells slots Q nL G A M pc lv' st) (h : zz_sub lv' lv) : zz_Z p l e R s m args below meth c cells slots Q nL G A M pc lv st := fun H locs ls hP hS hl => k H locs ls hP hS (zz_sub_has hl h)
theorem zz_eqi {x y : Int32} (h : x = y) (k : zz_Z p l e R s m args below meth c cells slots Q nL G A M pc lv (.int y :: st)) : zz_Z p l e R s m args below meth c cells slots Q nL G A M pc lv (.int x :: st) := h ▸ k
theorem zz_eql {x y : Int64} (h : x = y) (k : zz_Z p l e R s m args below meth c cells slots Q nL G A M pc lv (.long y :: st)) : zz_Z p l e R s m args below meth c cells slots Q nL G A M pc lv (.long x :: st) := h ▸ k
theorem zz_eqM {M' : zz_M} (h : M = M') (k : zz_Z p l e R s m args below meth c cells slots Q nL G A M' pc lv st) : zz_Z p l e R s m args below meth c cells slots Q nL G A M pc lv st := h ▸ k

theorem zz_iload_n (E : zz_E p R s m args c cells slots cc nL Ts own G A) {k : Fin 4} {x : Int32} (hdg : decode cc pc = .ok (.iload_n k, 1)) (hl : zz_get lv (k : Nat) = some (.int x)) (kk : zz_Z p l e R s m args below meth c cells slots Q nL G A M (pc + 1) lv (.int x :: st)) : zz_Z p l e R s m args below meth c cells slots Q nL G A M pc lv st := fun H locs ls hP hS hv => lv_iload_n E.1 E.2.1 hdg rfl (zz_get_has hv hl) (kk H locs ls hP hS hv)
theorem zz_iload (E : zz_E p R s m args c cells slots cc nL Ts own G A) {i : Nat} {x : Int32} (hdg : decode cc pc = .ok (.iload i, 2)) (hl : zz_get lv i = some (.int x)) (kk : zz_Z p l e R s m args below meth c cells slots Q nL G A M (pc + 2) lv (.int x :: st)) : zz_Z p l e R s m args below meth c cells slots Q nL G A M pc lv st := fun H locs ls hP hS hv => lv_iload E.1 E.2.1 hdg (zz_get_has hv hl) (kk H locs ls hP hS hv)
theorem zz_lload_n (E : zz_E p R s m args c cells slots cc nL Ts own G A) {k : Fin 4} {x : Int64} (hdg : decode cc pc = .ok (.lload_n k, 1)) (hl : zz_get lv (k : Nat) = some (.long x)) (kk : zz_Z p l e R s m args below meth c cells slots Q nL G A M (pc + 1) lv (.long x :: st)) : zz_Z p l e R s m args below meth c cells slots Q nL G A M pc lv st := fun H locs ls hP hS hv => lv_lload_n E.1 E.2.1 hdg rfl (zz_get_has hv hl) (kk H locs ls hP hS hv)
theorem zz_lload (E : zz_E p R s m args c cells slots cc nL Ts own G A) {i : Nat} {x : Int64} (hdg : decode cc pc = .ok (.lload i, 2)) (hl : zz_get lv i = some (.long x)) (kk : zz_Z p l e R s m args below meth c cells slots Q nL G A M (pc + 2) lv (.long x :: st)) : zz_Z p l e R s m args below meth c cells slots Q nL G A M pc lv st := fun H locs ls hP hS hv => lv_lload E.1 E.2.1 hdg (zz_get_has hv hl) (kk H locs ls hP hS hv)
theorem zz_aload_n (E : zz_E p R s m args c cells slots cc nL Ts own G A) {k : Fin 4} {x : Nat} (hdg : decode cc pc = .ok (.aload_n k, 1)) (hl : zz_get lv (k : Nat) = some (.ref x)) (kk : zz_Z p l e R s m args below meth c cells slots Q nL G A M (pc + 1) lv (.ref x :: st)) : zz_Z p l e R s m args below meth c cells slots Q nL G A M pc lv st := fun H locs ls hP hS hv => lv_aload_n E.1 E.2.1 hdg rfl (zz_get_has hv hl) (kk H locs ls hP hS hv)
theorem zz_aload (E : zz_E p R s m args c cells slots cc nL Ts own G A) {i : Nat} {x : Nat} (hdg : decode cc pc = .ok (.aload i, 2)) (hl : zz_get lv i = some (.ref x)) (kk : zz_Z p l e R s m args below meth c cells slots Q nL G A M (pc + 2) lv (.ref x :: st)) : zz_Z p l e R s m args below meth c cells slots Q nL G A M pc lv st := fun H locs ls hP hS hv => lv_aload E.1 E.2.1 hdg (zz_get_has hv hl) (kk H locs ls hP hS hv)
theorem zz_istore_n (E : zz_E p R s m args c cells slots cc nL Ts own G A) {k : Fin 4} {x : Int32} {lv' : List (Nat × Value)} (hdg : decode cc pc = .ok (.istore_n k, 1)) (hn : (k : Nat) < nL) (hl : zz_set (k : Nat) (.int x) lv = lv') (kk : zz_Z p l e R s m args below meth c cells slots Q nL G A M (pc + 1) lv' st) : zz_Z p l e R s m args below meth c cells slots Q nL G A M pc lv (.int x :: st) := fun H locs ls hP hS hv => lv_istore_n E.1 E.2.1 hdg rfl hv hn rfl (fun ls' hv' => kk H locs ls' hP hS (hv'.mono (by rw [← hl]; exact zz_set1 rfl)))
theorem zz_istore (E : zz_E p R s m args c cells slots cc nL Ts own G A) {i : Nat} {x : Int32} {lv' : List (Nat × Value)} (hdg : decode cc pc = .ok (.istore i, 2)) (hn : i < nL) (hl : zz_set i (.int x) lv = lv') (kk : zz_Z p l e R s m args below meth c cells slots Q nL G A M (pc + 2) lv' st) : zz_Z p l e R s m args below meth c cells slots Q nL G A M pc lv (.int x :: st) := fun H locs ls hP hS hv => lv_istore E.1 E.2.1 hdg hv hn rfl (fun ls' hv' => kk H locs ls' hP hS (hv'.mono (by rw [← hl]; exact zz_set1 rfl)))
theorem zz_lstore_n (E : zz_E p R s m args c cells slots cc nL Ts own G A) {k : Fin 4} {x : Int64} {lv' : List (Nat × Value)} (hdg : decode cc pc = .ok (.lstore_n k, 1)) (hn : (k : Nat) + 1 < nL) (hl : zz_set (k : Nat) (.long x) lv = lv') (kk : zz_Z p l e R s m args below meth c cells slots Q nL G A M (pc + 1) lv' st) : zz_Z p l e R s m args below meth c cells slots Q nL G A M pc lv (.long x :: st) := fun H locs ls hP hS hv => lv_lstore_n E.1 E.2.1 hdg rfl hv hn rfl (fun ls' hv' => kk H locs ls' hP hS (hv'.mono (by rw [← hl]; exact zz_set2 rfl)))
theorem zz_lstore (E : zz_E p R s m args c cells slots cc nL Ts own G A) {i : Nat} {x : Int64} {lv' : List (Nat × Value)} (hdg : decode cc pc = .ok (.lstore i, 2)) (hn : i + 1 < nL) (hl : zz_set i (.long x) lv = lv') (kk : zz_Z p l e R s m args below meth c cells slots Q nL G A M (pc + 2) lv' st) : zz_Z p l e R s m args below meth c cells slots Q nL G A M pc lv (.long x :: st) := fun H locs ls hP hS hv => lv_lstore E.1 E.2.1 hdg hv hn rfl (fun ls' hv' => kk H locs ls' hP hS (hv'.mono (by rw [← hl]; exact zz_set2 rfl)))
theorem zz_astore_n (E : zz_E p R s m args c cells slots cc nL Ts own G A) {k : Fin 4} {x : Nat} {lv' : List (Nat × Value)} (hdg : decode cc pc = .ok (.astore_n k, 1)) (hn : (k : Nat) < nL) (hl : zz_set (k : Nat) (.ref x) lv = lv') (kk : zz_Z p l e R s m args below meth c cells slots Q nL G A M (pc + 1) lv' st) : zz_Z p l e R s m args below meth c cells slots Q nL G A M pc lv (.ref x :: st) := fun H locs ls hP hS hv => lv_astore_n E.1 E.2.1 hdg rfl hv hn rfl (fun ls' hv' => kk H locs ls' hP hS (hv'.mono (by rw [← hl]; exact zz_set1 rfl)))
theorem zz_astore (E : zz_E p R s m args c cells slots cc nL Ts own G A) {i : Nat} {x : Nat} {lv' : List (Nat × Value)} (hdg : decode cc pc = .ok (.astore i, 2)) (hn : i < nL) (hl : zz_set i (.ref x) lv = lv') (kk : zz_Z p l e R s m args below meth c cells slots Q nL G A M (pc + 2) lv' st) : zz_Z p l e R s m args below meth c cells slots Q nL G A M pc lv (.ref x :: st) := fun H locs ls hP hS hv => lv_astore E.1 E.2.1 hdg hv hn rfl (fun ls' hv' => kk H locs ls' hP hS (hv'.mono (by rw [← hl]; exact zz_set1 rfl)))
theorem zz_at {lv : List (Nat × Value)} {i : Nat} {v : Value} : zz_get lv i = some v → ∃ k : Nat, lv[k]? = some (i, v) := by
  intro h
  induction lv with
  | nil => cases h
  | cons q t ih =>
    obtain ⟨j, w⟩ := q
    unfold zz_get at h
    cases hb : Nat.beq j i with
    | true =>
      rw [hb] at h
      have h : some w = some v := h
      cases h
      have := Nat.eq_of_beq_eq_true hb
      subst this
      exact ⟨0, rfl⟩
    | false =>
      rw [hb] at h
      obtain ⟨k, hk⟩ := ih h
      exact ⟨k + 1, hk⟩
theorem zz_iinc (E : zz_E p R s m args c cells slots cc nL Ts own G A) {i : Nat} {n : Int} {x v : Int32} {lv' : List (Nat × Value)} (hdg : decode cc pc = .ok (.iinc i n, 3)) (hg : zz_get lv i = some (.int x)) (hv : x + Int32.ofInt n = v) (hn : i < nL) (hl : zz_set i (.int v) lv = lv') (kk : zz_Z p l e R s m args below meth c cells slots Q nL G A M (pc + 3) lv' st) : zz_Z p l e R s m args below meth c cells slots Q nL G A M pc lv st := by
  obtain ⟨k, hk⟩ := zz_at hg
  exact fun H locs ls hP hS hh => lv_iinc E.1 E.2.1 hdg hh hk hv hn rfl (fun ls' hv' => kk H locs ls' hP hS (hv'.mono (by rw [← hl]; exact zz_set1 rfl)))
theorem zz_iconst (E : zz_E p R s m args c cells slots cc nL Ts own G A) {n : Int} {v : Int32} (hdg : decode cc pc = .ok (.iconst n, 1)) (hv : Int32.ofInt n = v) (kk : zz_Z p l e R s m args below meth c cells slots Q nL G A M (pc + 1) lv (.int v :: st)) : zz_Z p l e R s m args below meth c cells slots Q nL G A M pc lv st := fun H locs ls hP hS hh => lv_iconst E.1 E.2.1 hdg hv (kk H locs ls hP hS hh)
theorem zz_bipush (E : zz_E p R s m args c cells slots cc nL Ts own G A) {n : Int} {v : Int32} (hdg : decode cc pc = .ok (.bipush n, 2)) (hv : (Int8.ofInt n).toInt32 = v) (kk : zz_Z p l e R s m args below meth c cells slots Q nL G A M (pc + 2) lv (.int v :: st)) : zz_Z p l e R s m args below meth c cells slots Q nL G A M pc lv st := fun H locs ls hP hS hh => lv_bipush E.1 E.2.1 hdg hv (kk H locs ls hP hS hh)
theorem zz_sipush (E : zz_E p R s m args c cells slots cc nL Ts own G A) {n : Int} {v : Int32} (hdg : decode cc pc = .ok (.sipush n, 3)) (hv : (Int16.ofInt n).toInt32 = v) (kk : zz_Z p l e R s m args below meth c cells slots Q nL G A M (pc + 3) lv (.int v :: st)) : zz_Z p l e R s m args below meth c cells slots Q nL G A M pc lv st := fun H locs ls hP hS hh => lv_sipush E.1 E.2.1 hdg hv (kk H locs ls hP hS hh)
theorem zz_lconst (E : zz_E p R s m args c cells slots cc nL Ts own G A) {n : Fin 2} {v : Int64} (hdg : decode cc pc = .ok (.lconst n, 1)) (hv : Int64.ofNat (n : Nat) = v) (kk : zz_Z p l e R s m args below meth c cells slots Q nL G A M (pc + 1) lv (.long v :: st)) : zz_Z p l e R s m args below meth c cells slots Q nL G A M pc lv st := fun H locs ls hP hS hh => lv_lconst E.1 E.2.1 hdg hv (kk H locs ls hP hS hh)
theorem zz_ldc2 (E : zz_E p R s m args c cells slots cc nL Ts own G A) {index : Nat} {v : Int64} (hw : Cond.constantLong own index v ∈ Ts) (hdg : decode cc pc = .ok (.ldc2_w index, 3)) (kk : zz_Z p l e R s m args below meth c cells slots Q nL G A M (pc + 3) lv (.long v :: st)) : zz_Z p l e R s m args below meth c cells slots Q nL G A M pc lv st := fun H locs ls hP hS hh => lv_ldc2 E.1 E.2.1 E.2.2.2.1 (E.2.2.2.2.1 _ hw) hdg (kk H locs ls hP hS hh)
theorem zz_iadd (E : zz_E p R s m args c cells slots cc nL Ts own G A) {x y : Int32} (hdg : decode cc pc = .ok (.iadd, 1))  (kk : zz_Z p l e R s m args below meth c cells slots Q nL G A M (pc + 1) lv (.int (x + y) :: st)) : zz_Z p l e R s m args below meth c cells slots Q nL G A M pc lv (.int y :: .int x :: st) := fun H locs ls hP hS hh => lv_iadd E.1 E.2.1 hdg (kk H locs ls hP hS hh)
theorem zz_isub (E : zz_E p R s m args c cells slots cc nL Ts own G A) {x y : Int32} (hdg : decode cc pc = .ok (.isub, 1))  (kk : zz_Z p l e R s m args below meth c cells slots Q nL G A M (pc + 1) lv (.int (x - y) :: st)) : zz_Z p l e R s m args below meth c cells slots Q nL G A M pc lv (.int y :: .int x :: st) := fun H locs ls hP hS hh => lv_isub E.1 E.2.1 hdg (kk H locs ls hP hS hh)
theorem zz_imul (E : zz_E p R s m args c cells slots cc nL Ts own G A) {x y : Int32} (hdg : decode cc pc = .ok (.imul, 1))  (kk : zz_Z p l e R s m args below meth c cells slots Q nL G A M (pc + 1) lv (.int (x * y) :: st)) : zz_Z p l e R s m args below meth c cells slots Q nL G A M pc lv (.int y :: .int x :: st) := fun H locs ls hP hS hh => lv_imul E.1 E.2.1 hdg (kk H locs ls hP hS hh)
theorem zz_iand (E : zz_E p R s m args c cells slots cc nL Ts own G A) {x y : Int32} (hdg : decode cc pc = .ok (.iand, 1))  (kk : zz_Z p l e R s m args below meth c cells slots Q nL G A M (pc + 1) lv (.int (x &&& y) :: st)) : zz_Z p l e R s m args below meth c cells slots Q nL G A M pc lv (.int y :: .int x :: st) := fun H locs ls hP hS hh => lv_iand E.1 E.2.1 hdg (kk H locs ls hP hS hh)
theorem zz_ior (E : zz_E p R s m args c cells slots cc nL Ts own G A) {x y : Int32} (hdg : decode cc pc = .ok (.ior, 1))  (kk : zz_Z p l e R s m args below meth c cells slots Q nL G A M (pc + 1) lv (.int (x ||| y) :: st)) : zz_Z p l e R s m args below meth c cells slots Q nL G A M pc lv (.int y :: .int x :: st) := fun H locs ls hP hS hh => lv_ior E.1 E.2.1 hdg (kk H locs ls hP hS hh)
theorem zz_idiv (E : zz_E p R s m args c cells slots cc nL Ts own G A) {x y : Int32} (hdg : decode cc pc = .ok (.idiv, 1)) (hne : ¬ y = 0) (kk : zz_Z p l e R s m args below meth c cells slots Q nL G A M (pc + 1) lv (.int (x / y) :: st)) : zz_Z p l e R s m args below meth c cells slots Q nL G A M pc lv (.int y :: .int x :: st) := fun H locs ls hP hS hh => lv_idiv E.1 E.2.1 hdg hne (kk H locs ls hP hS hh)
theorem zz_irem (E : zz_E p R s m args c cells slots cc nL Ts own G A) {x y : Int32} (hdg : decode cc pc = .ok (.irem, 1)) (hne : ¬ y = 0) (kk : zz_Z p l e R s m args below meth c cells slots Q nL G A M (pc + 1) lv (.int (x - x / y * y) :: st)) : zz_Z p l e R s m args below meth c cells slots Q nL G A M pc lv (.int y :: .int x :: st) := fun H locs ls hP hS hh => lv_irem E.1 E.2.1 hdg hne (kk H locs ls hP hS hh)
theorem zz_ladd (E : zz_E p R s m args c cells slots cc nL Ts own G A) {x y : Int64} (hdg : decode cc pc = .ok (.ladd, 1))  (kk : zz_Z p l e R s m args below meth c cells slots Q nL G A M (pc + 1) lv (.long (x + y) :: st)) : zz_Z p l e R s m args below meth c cells slots Q nL G A M pc lv (.long y :: .long x :: st) := fun H locs ls hP hS hh => lv_ladd E.1 E.2.1 hdg (kk H locs ls hP hS hh)
theorem zz_lmul (E : zz_E p R s m args c cells slots cc nL Ts own G A) {x y : Int64} (hdg : decode cc pc = .ok (.lmul, 1))  (kk : zz_Z p l e R s m args below meth c cells slots Q nL G A M (pc + 1) lv (.long (x * y) :: st)) : zz_Z p l e R s m args below meth c cells slots Q nL G A M pc lv (.long y :: .long x :: st) := fun H locs ls hP hS hh => lv_lmul E.1 E.2.1 hdg (kk H locs ls hP hS hh)
theorem zz_land (E : zz_E p R s m args c cells slots cc nL Ts own G A) {x y : Int64} (hdg : decode cc pc = .ok (.land, 1))  (kk : zz_Z p l e R s m args below meth c cells slots Q nL G A M (pc + 1) lv (.long (x &&& y) :: st)) : zz_Z p l e R s m args below meth c cells slots Q nL G A M pc lv (.long y :: .long x :: st) := fun H locs ls hP hS hh => lv_land E.1 E.2.1 hdg (kk H locs ls hP hS hh)
theorem zz_lor (E : zz_E p R s m args c cells slots cc nL Ts own G A) {x y : Int64} (hdg : decode cc pc = .ok (.lor, 1))  (kk : zz_Z p l e R s m args below meth c cells slots Q nL G A M (pc + 1) lv (.long (x ||| y) :: st)) : zz_Z p l e R s m args below meth c cells slots Q nL G A M pc lv (.long y :: .long x :: st) := fun H locs ls hP hS hh => lv_lor E.1 E.2.1 hdg (kk H locs ls hP hS hh)
theorem zz_ldiv (E : zz_E p R s m args c cells slots cc nL Ts own G A) {x y : Int64} (hdg : decode cc pc = .ok (.ldiv, 1)) (hne : ¬ y = 0) (kk : zz_Z p l e R s m args below meth c cells slots Q nL G A M (pc + 1) lv (.long (x / y) :: st)) : zz_Z p l e R s m args below meth c cells slots Q nL G A M pc lv (.long y :: .long x :: st) := fun H locs ls hP hS hh => lv_ldiv E.1 E.2.1 hdg hne (kk H locs ls hP hS hh)
theorem zz_lrem (E : zz_E p R s m args c cells slots cc nL Ts own G A) {x y : Int64} (hdg : decode cc pc = .ok (.lrem, 1)) (hne : ¬ y = 0) (kk : zz_Z p l e R s m args below meth c cells slots Q nL G A M (pc + 1) lv (.long (x - x / y * y) :: st)) : zz_Z p l e R s m args below meth c cells slots Q nL G A M pc lv (.long y :: .long x :: st) := fun H locs ls hP hS hh => lv_lrem E.1 E.2.1 hdg hne (kk H locs ls hP hS hh)
theorem zz_ishl (E : zz_E p R s m args c cells slots cc nL Ts own G A) {x y : Int32} (hdg : decode cc pc = .ok (.ishl, 1)) (kk : zz_Z p l e R s m args below meth c cells slots Q nL G A M (pc + 1) lv (.int (x <<< (y &&& 31)) :: st)) : zz_Z p l e R s m args below meth c cells slots Q nL G A M pc lv (.int y :: .int x :: st) := fun H locs ls hP hS hh => lv_ishl E.1 E.2.1 hdg (kk H locs ls hP hS hh)
theorem zz_ishr (E : zz_E p R s m args c cells slots cc nL Ts own G A) {x y : Int32} (hdg : decode cc pc = .ok (.ishr, 1)) (kk : zz_Z p l e R s m args below meth c cells slots Q nL G A M (pc + 1) lv (.int (x >>> (y &&& 31)) :: st)) : zz_Z p l e R s m args below meth c cells slots Q nL G A M pc lv (.int y :: .int x :: st) := fun H locs ls hP hS hh => lv_ishr E.1 E.2.1 hdg (kk H locs ls hP hS hh)
theorem zz_i2l (E : zz_E p R s m args c cells slots cc nL Ts own G A) {x : Int32} {v : Int64} (hdg : decode cc pc = .ok (.i2l, 1)) (hv : x.toInt64 = v) (kk : zz_Z p l e R s m args below meth c cells slots Q nL G A M (pc + 1) lv (.long v :: st)) : zz_Z p l e R s m args below meth c cells slots Q nL G A M pc lv (.int x :: st) := fun H locs ls hP hS hh => lv_i2l E.1 E.2.1 hdg hv (kk H locs ls hP hS hh)
theorem zz_l2i (E : zz_E p R s m args c cells slots cc nL Ts own G A) {x : Int64} {v : Int32} (hdg : decode cc pc = .ok (.l2i, 1)) (hv : x.toInt32 = v) (kk : zz_Z p l e R s m args below meth c cells slots Q nL G A M (pc + 1) lv (.int v :: st)) : zz_Z p l e R s m args below meth c cells slots Q nL G A M pc lv (.long x :: st) := fun H locs ls hP hS hh => lv_l2i E.1 E.2.1 hdg hv (kk H locs ls hP hS hh)
theorem zz_lshl (E : zz_E p R s m args c cells slots cc nL Ts own G A) {x v : Int64} {y : Int32} (hdg : decode cc pc = .ok (.lshl, 1)) (hv : x <<< (y.toInt64 &&& 63) = v) (kk : zz_Z p l e R s m args below meth c cells slots Q nL G A M (pc + 1) lv (.long v :: st)) : zz_Z p l e R s m args below meth c cells slots Q nL G A M pc lv (.int y :: .long x :: st) := fun H locs ls hP hS hh => lv_lshl E.1 E.2.1 hdg hv (kk H locs ls hP hS hh)
theorem zz_lcmp (E : zz_E p R s m args c cells slots cc nL Ts own G A) {x y : Int64} (hdg : decode cc pc = .ok (.lcmp, 1)) (kk : zz_Z p l e R s m args below meth c cells slots Q nL G A M (pc + 1) lv (.int (lg_cmp x y) :: st)) : zz_Z p l e R s m args below meth c cells slots Q nL G A M pc lv (.long y :: .long x :: st) := fun H locs ls hP hS hh => W.lcmp E.1 E.2.1 hdg (kk H locs ls hP hS hh)
theorem zz_iushr (E : zz_E p R s m args c cells slots cc nL Ts own G A) {x y v : Int32} (hdg : decode cc pc = .ok (.iushr, 1)) (hv : (x.toUInt32 >>> (y.toUInt32 &&& Int32.toUInt32 31)).toInt32 = v) (kk : zz_Z p l e R s m args below meth c cells slots Q nL G A M (pc + 1) lv (.int v :: st)) : zz_Z p l e R s m args below meth c cells slots Q nL G A M pc lv (.int y :: .int x :: st) := fun H locs ls hP hS hh => lv_iushr E.1 E.2.1 hdg hv (kk H locs ls hP hS hh)
theorem zz_ldc (E : zz_E p R s m args c cells slots cc nL Ts own G A) {index : Nat} {v : Int32} (hw : Cond.constant own index v ∈ Ts) (hdg : decode cc pc = .ok (.ldc index, 2)) (kk : zz_Z p l e R s m args below meth c cells slots Q nL G A M (pc + 2) lv (.int v :: st)) : zz_Z p l e R s m args below meth c cells slots Q nL G A M pc lv st := fun H locs ls hP hS hh => lv_ldc E.1 E.2.1 E.2.2.2.1 (E.2.2.2.2.1 _ hw) hdg (kk H locs ls hP hS hh)
theorem zz_dup (E : zz_E p R s m args c cells slots cc nL Ts own G A) {v : Value} (hdg : decode cc pc = .ok (.dup, 1)) (hv : v.category = 1) (kk : zz_Z p l e R s m args below meth c cells slots Q nL G A M (pc + 1) lv (v :: v :: st)) : zz_Z p l e R s m args below meth c cells slots Q nL G A M pc lv (v :: st) := fun H locs ls hP hS hh => lv_dup E.1 E.2.1 hdg hv (kk H locs ls hP hS hh)
theorem zz_dup2 (E : zz_E p R s m args c cells slots cc nL Ts own G A) {v u : Value} (hdg : decode cc pc = .ok (.dup2, 1)) (hv : v.category = 1) (hu : u.category = 1) (kk : zz_Z p l e R s m args below meth c cells slots Q nL G A M (pc + 1) lv (v :: u :: v :: u :: st)) : zz_Z p l e R s m args below meth c cells slots Q nL G A M pc lv (v :: u :: st) := fun H locs ls hP hS hh => lv_dup2_11 E.1 E.2.1 hdg hv hu (kk H locs ls hP hS hh)
theorem zz_pop (E : zz_E p R s m args c cells slots cc nL Ts own G A) {v : Value} (hdg : decode cc pc = .ok (.pop, 1)) (hv : v.category = 1) (kk : zz_Z p l e R s m args below meth c cells slots Q nL G A M (pc + 1) lv st) : zz_Z p l e R s m args below meth c cells slots Q nL G A M pc lv (v :: st) := fun H locs ls hP hS hh => lv_pop E.1 E.2.1 hdg hv (kk H locs ls hP hS hh)
theorem zz_goto (E : zz_E p R s m args c cells slots cc nL Ts own G A) {off : Int} {tgt : Nat} (hdg : decode cc pc = .ok (.goto off, 3)) (ht : (pc : Int) + off = (tgt : Int)) (kk : zz_Z p l e R s m args below meth c cells slots Q nL G A M tgt lv st) : zz_Z p l e R s m args below meth c cells slots Q nL G A M pc lv st := fun H locs ls hP hS hh => lv_goto E.1 E.2.1 hdg ht (kk H locs ls hP hS hh)
theorem zz_if_eq (E : zz_E p R s m args c cells slots cc nL Ts own G A) {x : Int32} {off : Int} {tgt : Nat} (hdg : decode cc pc = .ok (.ifCond .eq off, 3)) (ht : (pc : Int) + off = (tgt : Int)) (kt : x = 0 → zz_Z p l e R s m args below meth c cells slots Q nL G A M tgt lv st) (kf : ¬ x = 0 → zz_Z p l e R s m args below meth c cells slots Q nL G A M (pc + 3) lv st) : zz_Z p l e R s m args below meth c cells slots Q nL G A M pc lv (.int x :: st) := fun H locs ls hP hS hh => lv_if_eq E.1 E.2.1 hdg ht (fun q => kt q H locs ls hP hS hh) (fun q => kf q H locs ls hP hS hh)
theorem zz_icmp_eq (E : zz_E p R s m args c cells slots cc nL Ts own G A) {x y : Int32} {off : Int} {tgt : Nat} (hdg : decode cc pc = .ok (.if_icmp .eq off, 3)) (ht : (pc : Int) + off = (tgt : Int)) (kt : x = y → zz_Z p l e R s m args below meth c cells slots Q nL G A M tgt lv st) (kf : ¬ x = y → zz_Z p l e R s m args below meth c cells slots Q nL G A M (pc + 3) lv st) : zz_Z p l e R s m args below meth c cells slots Q nL G A M pc lv (.int y :: .int x :: st) := fun H locs ls hP hS hh => lv_icmp_eq E.1 E.2.1 hdg ht (fun q => kt q H locs ls hP hS hh) (fun q => kf q H locs ls hP hS hh)
theorem zz_if_ne (E : zz_E p R s m args c cells slots cc nL Ts own G A) {x : Int32} {off : Int} {tgt : Nat} (hdg : decode cc pc = .ok (.ifCond .ne off, 3)) (ht : (pc : Int) + off = (tgt : Int)) (kt : ¬ x = 0 → zz_Z p l e R s m args below meth c cells slots Q nL G A M tgt lv st) (kf : x = 0 → zz_Z p l e R s m args below meth c cells slots Q nL G A M (pc + 3) lv st) : zz_Z p l e R s m args below meth c cells slots Q nL G A M pc lv (.int x :: st) := fun H locs ls hP hS hh => lv_if_ne E.1 E.2.1 hdg ht (fun q => kt q H locs ls hP hS hh) (fun q => kf q H locs ls hP hS hh)
theorem zz_icmp_ne (E : zz_E p R s m args c cells slots cc nL Ts own G A) {x y : Int32} {off : Int} {tgt : Nat} (hdg : decode cc pc = .ok (.if_icmp .ne off, 3)) (ht : (pc : Int) + off = (tgt : Int)) (kt : ¬ x = y → zz_Z p l e R s m args below meth c cells slots Q nL G A M tgt lv st) (kf : x = y → zz_Z p l e R s m args below meth c cells slots Q nL G A M (pc + 3) lv st) : zz_Z p l e R s m args below meth c cells slots Q nL G A M pc lv (.int y :: .int x :: st) := fun H locs ls hP hS hh => lv_icmp_ne E.1 E.2.1 hdg ht (fun q => kt q H locs ls hP hS hh) (fun q => kf q H locs ls hP hS hh)
theorem zz_if_lt (E : zz_E p R s m args c cells slots cc nL Ts own G A) {x : Int32} {off : Int} {tgt : Nat} (hdg : decode cc pc = .ok (.ifCond .lt off, 3)) (ht : (pc : Int) + off = (tgt : Int)) (kt : x < 0 → zz_Z p l e R s m args below meth c cells slots Q nL G A M tgt lv st) (kf : ¬ x < 0 → zz_Z p l e R s m args below meth c cells slots Q nL G A M (pc + 3) lv st) : zz_Z p l e R s m args below meth c cells slots Q nL G A M pc lv (.int x :: st) := fun H locs ls hP hS hh => lv_if_lt E.1 E.2.1 hdg ht (fun q => kt q H locs ls hP hS hh) (fun q => kf q H locs ls hP hS hh)
theorem zz_icmp_lt (E : zz_E p R s m args c cells slots cc nL Ts own G A) {x y : Int32} {off : Int} {tgt : Nat} (hdg : decode cc pc = .ok (.if_icmp .lt off, 3)) (ht : (pc : Int) + off = (tgt : Int)) (kt : x < y → zz_Z p l e R s m args below meth c cells slots Q nL G A M tgt lv st) (kf : ¬ x < y → zz_Z p l e R s m args below meth c cells slots Q nL G A M (pc + 3) lv st) : zz_Z p l e R s m args below meth c cells slots Q nL G A M pc lv (.int y :: .int x :: st) := fun H locs ls hP hS hh => lv_icmp_lt E.1 E.2.1 hdg ht (fun q => kt q H locs ls hP hS hh) (fun q => kf q H locs ls hP hS hh)
theorem zz_if_ge (E : zz_E p R s m args c cells slots cc nL Ts own G A) {x : Int32} {off : Int} {tgt : Nat} (hdg : decode cc pc = .ok (.ifCond .ge off, 3)) (ht : (pc : Int) + off = (tgt : Int)) (kt : 0 ≤ x → zz_Z p l e R s m args below meth c cells slots Q nL G A M tgt lv st) (kf : ¬ 0 ≤ x → zz_Z p l e R s m args below meth c cells slots Q nL G A M (pc + 3) lv st) : zz_Z p l e R s m args below meth c cells slots Q nL G A M pc lv (.int x :: st) := fun H locs ls hP hS hh => lv_if_ge E.1 E.2.1 hdg ht (fun q => kt q H locs ls hP hS hh) (fun q => kf q H locs ls hP hS hh)
theorem zz_icmp_ge (E : zz_E p R s m args c cells slots cc nL Ts own G A) {x y : Int32} {off : Int} {tgt : Nat} (hdg : decode cc pc = .ok (.if_icmp .ge off, 3)) (ht : (pc : Int) + off = (tgt : Int)) (kt : y ≤ x → zz_Z p l e R s m args below meth c cells slots Q nL G A M tgt lv st) (kf : ¬ y ≤ x → zz_Z p l e R s m args below meth c cells slots Q nL G A M (pc + 3) lv st) : zz_Z p l e R s m args below meth c cells slots Q nL G A M pc lv (.int y :: .int x :: st) := fun H locs ls hP hS hh => lv_icmp_ge E.1 E.2.1 hdg ht (fun q => kt q H locs ls hP hS hh) (fun q => kf q H locs ls hP hS hh)
theorem zz_if_gt (E : zz_E p R s m args c cells slots cc nL Ts own G A) {x : Int32} {off : Int} {tgt : Nat} (hdg : decode cc pc = .ok (.ifCond .gt off, 3)) (ht : (pc : Int) + off = (tgt : Int)) (kt : 0 < x → zz_Z p l e R s m args below meth c cells slots Q nL G A M tgt lv st) (kf : ¬ 0 < x → zz_Z p l e R s m args below meth c cells slots Q nL G A M (pc + 3) lv st) : zz_Z p l e R s m args below meth c cells slots Q nL G A M pc lv (.int x :: st) := fun H locs ls hP hS hh => lv_if_gt E.1 E.2.1 hdg ht (fun q => kt q H locs ls hP hS hh) (fun q => kf q H locs ls hP hS hh)
theorem zz_icmp_gt (E : zz_E p R s m args c cells slots cc nL Ts own G A) {x y : Int32} {off : Int} {tgt : Nat} (hdg : decode cc pc = .ok (.if_icmp .gt off, 3)) (ht : (pc : Int) + off = (tgt : Int)) (kt : y < x → zz_Z p l e R s m args below meth c cells slots Q nL G A M tgt lv st) (kf : ¬ y < x → zz_Z p l e R s m args below meth c cells slots Q nL G A M (pc + 3) lv st) : zz_Z p l e R s m args below meth c cells slots Q nL G A M pc lv (.int y :: .int x :: st) := fun H locs ls hP hS hh => lv_icmp_gt E.1 E.2.1 hdg ht (fun q => kt q H locs ls hP hS hh) (fun q => kf q H locs ls hP hS hh)
theorem zz_if_le (E : zz_E p R s m args c cells slots cc nL Ts own G A) {x : Int32} {off : Int} {tgt : Nat} (hdg : decode cc pc = .ok (.ifCond .le off, 3)) (ht : (pc : Int) + off = (tgt : Int)) (kt : x ≤ 0 → zz_Z p l e R s m args below meth c cells slots Q nL G A M tgt lv st) (kf : ¬ x ≤ 0 → zz_Z p l e R s m args below meth c cells slots Q nL G A M (pc + 3) lv st) : zz_Z p l e R s m args below meth c cells slots Q nL G A M pc lv (.int x :: st) := fun H locs ls hP hS hh => lv_if_le E.1 E.2.1 hdg ht (fun q => kt q H locs ls hP hS hh) (fun q => kf q H locs ls hP hS hh)
theorem zz_icmp_le (E : zz_E p R s m args c cells slots cc nL Ts own G A) {x y : Int32} {off : Int} {tgt : Nat} (hdg : decode cc pc = .ok (.if_icmp .le off, 3)) (ht : (pc : Int) + off = (tgt : Int)) (kt : x ≤ y → zz_Z p l e R s m args below meth c cells slots Q nL G A M tgt lv st) (kf : ¬ x ≤ y → zz_Z p l e R s m args below meth c cells slots Q nL G A M (pc + 3) lv st) : zz_Z p l e R s m args below meth c cells slots Q nL G A M pc lv (.int y :: .int x :: st) := fun H locs ls hP hS hh => lv_icmp_le E.1 E.2.1 hdg ht (fun q => kt q H locs ls hP hS hh) (fun q => kf q H locs ls hP hS hh)
theorem zz_tableIn (E : zz_E p R s m args c cells slots cc nL Ts own G A) {dflt lo hi : Int} {offs : Array Int} {len : Nat} {x : Int32} {off : Int} {tgt : Nat} (hdg : decode cc pc = .ok (.tableswitch dflt lo hi offs, len)) (h1 : ¬ x.toInt < lo) (h2 : ¬ hi < x.toInt) (ho : offs[(x.toInt - lo).toNat]? = some off) (ht : (pc : Int) + off = (tgt : Int)) (kk : zz_Z p l e R s m args below meth c cells slots Q nL G A M tgt lv st) : zz_Z p l e R s m args below meth c cells slots Q nL G A M pc lv (.int x :: st) := fun H locs ls hP hS hh => lv_tableIn E.1 E.2.1 hdg h1 h2 ho ht (kk H locs ls hP hS hh)
theorem zz_tableOut (E : zz_E p R s m args c cells slots cc nL Ts own G A) {dflt lo hi : Int} {offs : Array Int} {len : Nat} {x : Int32} {tgt : Nat} (hdg : decode cc pc = .ok (.tableswitch dflt lo hi offs, len)) (h : x.toInt < lo ∨ hi < x.toInt) (ht : (pc : Int) + dflt = (tgt : Int)) (kk : zz_Z p l e R s m args below meth c cells slots Q nL G A M tgt lv st) : zz_Z p l e R s m args below meth c cells slots Q nL G A M pc lv (.int x :: st) := fun H locs ls hP hS hh => lv_tableOut E.1 E.2.1 hdg h ht (kk H locs ls hP hS hh)
theorem zz_gf (E : zz_E p R s m args c cells slots cc nL Ts own G A) (k : Nat) {ci Nf index : Nat} {C ref : String} {T : u_T} {fs : List Value} {v : Value} (hk : k < 111) (hF : zz_F G k (M k) = .inr (ci, fs)) (hc : vwCl[ci]? = some (C, T, Nf)) (hin : ∀ w ∈ u_ws C T Nf, w ∈ Ts) (f : Nat) (hf : f < Nf) (hlink : Cond.fieldLink own index ref (T f).2.1 (T f).2.2.1 ∈ Ts) (hsame : ∀ x, s.fieldFound? (T f).1 (T f).2.1 (T f).2.2.1 = some x → s.fieldFound? ref (T f).2.1 (T f).2.2.1 = some x) (hv : fs[f]? = some v) (hdg : decode cc pc = .ok (.getfield index, 3)) (kk : zz_Z p l e R s m args below meth c cells slots Q nL G A M (pc + 3) lv (v :: st)) : zz_Z p l e R s m args below meth c cells slots Q nL G A M pc lv (.ref (G.2.2 k) :: st) := fun H locs ls hP hS hh => va_get E.1 E.2.1 E.2.2.2.2.1 hin E.2.2.2.1 E.2.2.2.2.2.2.1.1 hP k (by rw [zz_W_get G M hk, hF]) hc f hf (E.2.2.2.2.1 _ hlink) hsame hv hdg (kk H locs ls hP hS hh)
theorem zz_pf (E : zz_E p R s m args c cells slots cc nL Ts own G A) (k : Nat) {ci Nf index : Nat} {C ref : String} {T : u_T} {fs : List Value} {x : Int32} (g : Nat → Int32) (hk : k < 111) (hF : zz_F G k (M k) = .inr (ci, fs)) (hc : vwCl[ci]? = some (C, T, Nf)) (hin : ∀ w ∈ u_ws C T Nf, w ∈ Ts) (ty0 : Nat → FieldType) (hty : ∀ k, k < Nf → parseFieldDescriptor (T k).2.2.1 = some (ty0 k)) (hnm : ∀ a, a < Nf → ∀ b, b < Nf → a ≠ b → (T a).2.1 ≠ (T b).2.1) (f : Nat) (hf : f < Nf) (hlink : Cond.fieldLink own index ref (T f).2.1 (T f).2.2.1 ∈ Ts) (hsame : ∀ x, s.fieldFound? (T f).1 (T f).2.1 (T f).2.2.1 = some x → s.fieldFound? ref (T f).2.1 (T f).2.2.1 = some x) (hfin : (T f).2.2.2 = false) (hd : parseFieldDescriptor (T f).2.2.1 = some .int) (hl : f < fs.length) (hg : zz_F G k g = .inr (ci, fs.set f (.int x))) (hdg : decode cc pc = .ok (.putfield index, 3)) (kk : zz_Z p l e R s m args below meth c cells slots Q nL G A (zz_up M k g) (pc + 3) lv st) : zz_Z p l e R s m args below meth c cells slots Q nL G A M pc lv (.int x :: .ref (G.2.2 k) :: st) := fun H locs ls hP hS hh => va_put (ty := .int) E.1 E.2.1 E.2.2.2.2.1 hin ty0 hty hnm E.2.2.2.1 E.2.2.2.2.2.2.1.1 hP (zz_D E.2.2.2.2.2.1 E.2.2.2.2.2.2.2.1 M) hS k (by rw [zz_W_get G M hk, hF]) hc f hf (E.2.2.2.2.1 _ hlink) hsame hfin hd rfl rfl hl hdg (fun H1 locs1 hP1 _ hS1 => kk H1 locs1 ls (by rw [← hg, zz_W_set G M hk] at hP1; exact hP1) hS1 hh)
theorem zz_iald (E : zz_E p R s m args c cells slots cc nL Ts own G A) (k j : Nat) {n : Nat} {i : Int32} (hk : k < 111) (hF : zz_F G k (M k) = .inl (G.2.1 0, n, .inl (M k))) (hi : i = nI j) (hj : j < n) (hn : n < 2 ^ 31) (hdg : decode cc pc = .ok (.iaload, 1)) (kk : zz_Z p l e R s m args below meth c cells slots Q nL G A M (pc + 1) lv (.int (M k j) :: st)) : zz_Z p l e R s m args below meth c cells slots Q nL G A M pc lv (.int i :: .ref (G.2.2 k) :: st) := fun H locs ls hP hS hh => by
  have hin : vp_in i n := by rw [hi]; exact vp_in_nI hj hn
  have e : i.toNatClampNeg = j := by rw [hi]; exact nI_clamp (by omega)
  refine va_iald E.1 E.2.1 E.2.2.2.2.2.2.1.1 hP k 0 (cA := G.2.1 0) (n := n) (f := M k) (by rw [zz_W_get G M hk, hF]) rfl hin hdg ?_
  rw [e]
  exact kk H locs ls hP hS hh
theorem zz_iast (E : zz_E p R s m args c cells slots cc nL Ts own G A) (k j : Nat) {n : Nat} {i x : Int32} (hk : k < 111) (hF : ∀ f, zz_F G k f = .inl (G.2.1 0, n, .inl f)) (hi : i = nI j) (hj : j < n) (hn : n < 2 ^ 31) (hdg : decode cc pc = .ok (.iastore, 1)) (kk : zz_Z p l e R s m args below meth c cells slots Q nL G A (zz_up M k (upd (M k) j x)) (pc + 1) lv st) : zz_Z p l e R s m args below meth c cells slots Q nL G A M pc lv (.int x :: .int i :: .ref (G.2.2 k) :: st) := fun H locs ls hP hS hh => by
  have hin : vp_in i n := by rw [hi]; exact vp_in_nI hj hn
  have e : i.toNatClampNeg = j := by rw [hi]; exact nI_clamp (by omega)
  refine va_iast E.1 E.2.1 E.2.2.2.2.2.2.1.1 hP (zz_D E.2.2.2.2.2.1 E.2.2.2.2.2.2.2.1 M) hS k 0 (cA := G.2.1 0) (n := n) (f := M k) (by rw [zz_W_get G M hk, hF]) rfl hin hdg (fun H1 locs1 hP1 _ hS1 => ?_)
  rw [e, ← hF, zz_W_set G M hk] at hP1
  exact kk H1 locs1 ls hP1 hS1 hh
theorem zz_alen (E : zz_E p R s m args c cells slots cc nL Ts own G A) (k : Nat) {n : Nat} (hk : k < 111) (hF : zz_F G k (M k) = .inl (G.2.1 0, n, .inl (M k))) (hdg : decode cc pc = .ok (.arraylength, 1)) (kk : zz_Z p l e R s m args below meth c cells slots Q nL G A M (pc + 1) lv (.int (nI n) :: st)) : zz_Z p l e R s m args below meth c cells slots Q nL G A M pc lv (.ref (G.2.2 k) :: st) := fun H locs ls hP hS hh => va_alen (v := nI n) (ty := .int) E.1 E.2.1 E.2.2.2.2.2.2.1.1 hP k 0 (cA := G.2.1 0) (x := (n, .inl (M k))) (by rw [zz_W_get G M hk, hF]) rfl rfl hdg (kk H locs ls hP hS hh)
theorem zz_aald (E : zz_E p R s m args c cells slots cc nL Ts own G A) (k j : Nat) {n t0 : Nat} {i : Int32} {f : Nat → Nat} {ty : FieldType} (hk : k < 111) (hF : zz_F G k (M k) = .inl (G.2.1 t0, n, zz_rf f)) (ht : (zz_T G)[t0]? = some (G.2.1 t0, ty)) (hty : ty.isReference = true) (hi : i = nI j) (hj : j < n) (hn : n < 2 ^ 31) (hdg : decode cc pc = .ok (.aaload, 1)) (kk : zz_Z p l e R s m args below meth c cells slots Q nL G A M (pc + 1) lv (.ref (f j) :: st)) : zz_Z p l e R s m args below meth c cells slots Q nL G A M pc lv (.int i :: .ref (G.2.2 k) :: st) := fun H locs ls hP hS hh => by
  have hin : vp_in i n := by rw [hi]; exact vp_in_nI hj hn
  have e : i.toNatClampNeg = j := by rw [hi]; exact nI_clamp (by omega)
  have hc : H[G.2.2 k]? = some (arrV (G.2.1 t0) n (fun j => va_rf (some (f j)))) := by
    have h := hP k _ (zz_W_get G M hk)
    rw [hF] at h
    exact h
  exact W.aald (v := .ref (f j)) (ty := ty) E.1 E.2.1 hc ((E.2.2.2.2.2.2.1.1.2 t0 _ ht).1 n (fun j => va_rf (some (f j)))) hty (fun q => by cases q) (by show ¬ (i < 0 ∨ (arrV _ _ _).slots.size ≤ _); rw [arrV_size]; exact hin) (by show (arrV _ _ _).slots[_]? = _; rw [e, arrV_read _ _ hj]; rfl) rfl rfl hdg (kk H locs ls hP hS hh)
theorem zz_max (E : zz_E p R s m args c cells slots cc nL Ts own G A) {index : Nat} {x y : Int32} {rest : List Value} (h1 : Cond.methodLink own index Lib.Math.max.name ∈ Ts) (h2 : Cond.static Lib.Math.max.name ∈ Ts) (h3 : Cond.initialized "java/lang/Math" ∈ Ts) (h4 : Cond.code Lib.Math.max.name Lib.Math.max.code 2 (some .int) ∈ Ts) (hf : 1 ≤ R.frames) (hl : (st.map fun v => v.category).sum + 13 ≤ R.locals) (hdg : decode cc pc = .ok (.invokestatic index, 3)) (kk : zz_Z p l e R s m args below meth c cells slots Q nL G A M (pc + 3) lv (.int (if x < y then y else x) :: st)) : zz_Z p l e R s m args below meth c cells slots Q nL G A M pc lv (.int y :: .int x :: st) := fun H locs ls hP hS hh => va_mmax E.1 E.2.1 (E.2.2.1.trans hh.1.symm) E.2.2.2.1 (E.2.2.2.2.1 _ h1) (E.2.2.2.2.1 _ h2) (E.2.2.2.2.1 _ h3) (E.2.2.2.2.1 _ h4) hf hl E.2.2.2.2.2.2.2.2.1 E.2.2.2.2.2.2.2.2.2 hdg (kk H locs ls hP hS hh)
theorem zz_min (E : zz_E p R s m args c cells slots cc nL Ts own G A) {index : Nat} {x y : Int32} {rest : List Value} (h1 : Cond.methodLink own index Lib.Math.min.name ∈ Ts) (h2 : Cond.static Lib.Math.min.name ∈ Ts) (h3 : Cond.initialized "java/lang/Math" ∈ Ts) (h4 : Cond.code Lib.Math.min.name Lib.Math.min.code 2 (some .int) ∈ Ts) (hf : 1 ≤ R.frames) (hl : (st.map fun v => v.category).sum + 13 ≤ R.locals) (hdg : decode cc pc = .ok (.invokestatic index, 3)) (kk : zz_Z p l e R s m args below meth c cells slots Q nL G A M (pc + 3) lv (.int (if y < x then y else x) :: st)) : zz_Z p l e R s m args below meth c cells slots Q nL G A M pc lv (.int y :: .int x :: st) := fun H locs ls hP hS hh => va_mmin E.1 E.2.1 (E.2.2.1.trans hh.1.symm) E.2.2.2.1 (E.2.2.2.2.1 _ h1) (E.2.2.2.2.1 _ h2) (E.2.2.2.2.1 _ h3) (E.2.2.2.2.1 _ h4) hf hl E.2.2.2.2.2.2.2.2.1 E.2.2.2.2.2.2.2.2.2 hdg (kk H locs ls hP hS hh)
theorem zz_acopy (E : zz_E p R s m args c cells slots cc nL Ts own G A) (k0 k1 : Nat) {n0 n1 j0 j1 n index : Nat} {sp dp nn : Int32} (hk0 : k0 < 111) (hk1 : k1 < 111) (hF0 : zz_F G k0 (M k0) = .inl (G.2.1 0, n0, .inl (M k0))) (hF1 : ∀ f, zz_F G k1 f = .inl (G.2.1 0, n1, .inl f)) (hs : sp = nI j0) (hd : dp = nI j1) (hn : nn = nI n) (h4 : j0 + n ≤ n0) (h5 : j1 + n ≤ n1) (hb0 : n0 < 2 ^ 31) (hb1 : n1 < 2 ^ 31) (h1 : Cond.methodLink own index arraycopyName ∈ Ts) (h2 : Cond.native arraycopyName ∈ Ts) (h3 : Cond.static arraycopyName ∈ Ts) (hini : Cond.initialized "java/lang/System" ∈ Ts) (hf : 1 ≤ R.frames) (hl : (st.map fun v => v.category).sum + (nativeFrameWords "java/lang/System" "arraycopy" 5 + 11) ≤ R.locals) (hdg : decode cc pc = .ok (.invokestatic index, 3)) (kk : zz_Z p l e R s m args below meth c cells slots Q nL G A (zz_up M k1 (va_cpy (M k0) (M k1) j0 j1 n)) (pc + 3) lv st) : zz_Z p l e R s m args below meth c cells slots Q nL G A M pc lv (.int nn :: .int dp :: .ref (G.2.2 k1) :: .int sp :: .ref (G.2.2 k0) :: st) := fun H locs ls hP hS hh => by
  subst hs; subst hd; subst hn
  refine va_copyi E.1 E.2.1 (E.2.2.1.trans hh.1.symm) E.2.2.2.1 (E.2.2.2.2.1 _ h1) (E.2.2.2.2.1 _ h2) (E.2.2.2.2.1 _ h3) (E.2.2.2.2.1 _ hini) E.2.2.2.2.2.2.1.1 hP (zz_D E.2.2.2.2.2.1 E.2.2.2.2.2.2.2.1 M) hS k0 k1 0 0 (c0 := G.2.1 0) (c1 := G.2.1 0) (n0 := n0) (n1 := n1) (f := M k0) (g := M k1) (ty := .int) (by rw [zz_W_get G M hk0, hF0]) (by rw [zz_W_get G M hk1, hF1]) rfl rfl rfl (nI_pos (by omega)) (nI_pos (by omega)) (nI_pos (by omega)) (by rw [nI_clamp (by omega), nI_clamp (by omega)]; exact h4) (by rw [nI_clamp (by omega), nI_clamp (by omega)]; exact h5) (fun _ _ => rfl) hf hl hdg (fun H1 locs1 hP1 _ hS1 => ?_)
  rw [nI_clamp (n := j0) (by omega), nI_clamp (n := j1) (by omega), nI_clamp (n := n) (by omega), ← hF1, zz_W_set G M hk1] at hP1
  exact kk H1 locs1 ls hP1 hS1 hh
theorem zz_ciV (E : zz_E p R s m args c cells slots cc nL Ts own G A) {y : MethodName} {bytes : ByteArray} {maxL n index : Nat} {ret : Option FieldType} {ws : List Cond} {rm : Room} {As rest : List Value} {C : String} {T : u_T} {Nf ci : Nat} {fs : List Value} {post : Int32 → zz_M → Prop} (k : Nat) (hM : Met l y ws rm (zz_P G M (.ref (G.2.2 k) :: As)) (zz_Qi G post) 0 0 (zz_A G)) (cw : CallW R s args own C index y bytes maxL ret ws rm 0 0 n) (hk : k < 111) (hF : zz_F G k (M k) = .inr (ci, fs)) (hc : vwCl[ci]? = some (C, T, Nf)) (hn : As.length = n) (hst : st = As.reverse ++ .ref (G.2.2 k) :: rest) (hW : (rest.map fun v => v.category).sum ≤ 8) (hdg : decode cc pc = .ok (.invokevirtual index, 3)) (kk : ∀ (r : Int32) (M' : zz_M), post r M' → zz_Z p l e R s m args below meth c cells slots Q nL G A M' (pc + 3) lv (.int r :: rest)) : zz_Z p l e R s m args below meth c cells slots Q nL G A M pc lv st := fun H locs ls hP hS hh => va_calli (va_runV (g := F0 m pc ls st) ⟨E.1, E.2.1, E.2.2.1, E.2.2.2.1, E.2.2.2.2.1⟩ hM cw ⟨zz_P_blind, va_recv E.2.2.2.2.2.2.1.1 hP hc (by rw [zz_W_get G M hk, hF]), fun U hU hW => zz_P_at hP E.2.2.2.2.2.2.1 hU hW⟩ rfl hn hh.1 hst (lv_room hW) hdg ⟨E.2.2.2.2.2.2.2.2.1, E.2.2.2.2.2.2.2.2.2⟩) hS (fun q _ ⟨k9, h9, e9⟩ => by rw [e9]; exact E.2.2.2.2.2.2.2.1 k9 h9) (fun q ⟨k9, h9, e9⟩ => by rw [e9]; exact E.2.2.2.2.2.2.2.1 k9 h9) (fun r M1 t H1 locs1 ht _ hp hB _ _ hS1 => kk r M1 hp H1 locs1 ls (by rw [← ht]; exact hB) hS1 hh)
theorem zz_ciS (E : zz_E p R s m args c cells slots cc nL Ts own G A) {y : MethodName} {bytes : ByteArray} {maxL n index : Nat} {ret : Option FieldType} {ws : List Cond} {rm : Room} {As rest : List Value} {post : Int32 → zz_M → Prop} (hM : Met l y ws rm (zz_P G M As) (zz_Qi G post) 0 0 (zz_A G)) (cw : CallB R s args own index y bytes maxL ret ws rm 0 0 n ∧ (Cond.static y).before args s = true) (hn : As.length = n) (hst : st = As.reverse ++ rest) (hW : (rest.map fun v => v.category).sum ≤ 8) (hdg : decode cc pc = .ok (.invokestatic index, 3)) (kk : ∀ (r : Int32) (M' : zz_M), post r M' → zz_Z p l e R s m args below meth c cells slots Q nL G A M' (pc + 3) lv (.int r :: rest)) : zz_Z p l e R s m args below meth c cells slots Q nL G A M pc lv st := fun H locs ls hP hS hh => va_calli (va_runS (g := F0 m pc ls st) ⟨E.1, E.2.1, E.2.2.1, E.2.2.2.1, E.2.2.2.2.1⟩ hM cw ⟨zz_P_blind, fun U hU hW => zz_P_at hP E.2.2.2.2.2.2.1 hU hW⟩ rfl hn hh.1 hst (lv_room hW) hdg ⟨E.2.2.2.2.2.2.2.2.1, E.2.2.2.2.2.2.2.2.2⟩) hS (fun q _ ⟨k9, h9, e9⟩ => by rw [e9]; exact E.2.2.2.2.2.2.2.1 k9 h9) (fun q ⟨k9, h9, e9⟩ => by rw [e9]; exact E.2.2.2.2.2.2.2.1 k9 h9) (fun r M1 t H1 locs1 ht _ hp hB _ _ hS1 => kk r M1 hp H1 locs1 ls (by rw [← ht]; exact hB) hS1 hh)
theorem zz_ciN (E : zz_E p R s m args c cells slots cc nL Ts own G A) {y : MethodName} {bytes : ByteArray} {maxL n index : Nat} {ret : Option FieldType} {ws : List Cond} {rm : Room} {As rest : List Value} {host : String} {post : Int32 → zz_M → Prop} (hM : Met l y ws rm (zz_P G M As) (zz_Qi G post) 0 0 (zz_A G)) (cw : va_CN R s args own index y host bytes maxL ret ws rm 0 0 n ∧ (Cond.static y).before args s = true ∧ True) (hn : As.length = n) (hst : st = As.reverse ++ rest) (hW : (rest.map fun v => v.category).sum ≤ 8) (hdg : decode cc pc = .ok (.invokestatic index, 3)) (kk : ∀ (r : Int32) (M' : zz_M), post r M' → zz_Z p l e R s m args below meth c cells slots Q nL G A M' (pc + 3) lv (.int r :: rest)) : zz_Z p l e R s m args below meth c cells slots Q nL G A M pc lv st := fun H locs ls hP hS hh => va_calli (va_runSN (g := F0 m pc ls st) ⟨E.1, E.2.1, E.2.2.1, E.2.2.2.1, E.2.2.2.2.1⟩ hM cw ⟨zz_P_blind, fun U hU hW => zz_P_at hP E.2.2.2.2.2.2.1 hU hW⟩ rfl hn hh.1 hst (lv_room hW) hdg ⟨E.2.2.2.2.2.2.2.2.1, E.2.2.2.2.2.2.2.2.2⟩) hS (fun q _ ⟨k9, h9, e9⟩ => by rw [e9]; exact E.2.2.2.2.2.2.2.1 k9 h9) (fun q ⟨k9, h9, e9⟩ => by rw [e9]; exact E.2.2.2.2.2.2.2.1 k9 h9) (fun r M1 t H1 locs1 ht _ hp hB _ _ hS1 => kk r M1 hp H1 locs1 ls (by rw [← ht]; exact hB) hS1 hh)
theorem zz_clV (E : zz_E p R s m args c cells slots cc nL Ts own G A) {y : MethodName} {bytes : ByteArray} {maxL n index : Nat} {ret : Option FieldType} {ws : List Cond} {rm : Room} {As rest : List Value} {C : String} {T : u_T} {Nf ci : Nat} {fs : List Value} {post : Int64 → zz_M → Prop} (k : Nat) (hM : Met l y ws rm (zz_P G M (.ref (G.2.2 k) :: As)) (zz_Ql G post) 0 0 (zz_A G)) (cw : CallW R s args own C index y bytes maxL ret ws rm 0 0 n) (hk : k < 111) (hF : zz_F G k (M k) = .inr (ci, fs)) (hc : vwCl[ci]? = some (C, T, Nf)) (hn : As.length = n) (hst : st = As.reverse ++ .ref (G.2.2 k) :: rest) (hW : (rest.map fun v => v.category).sum ≤ 8) (hdg : decode cc pc = .ok (.invokevirtual index, 3)) (kk : ∀ (r : Int64) (M' : zz_M), post r M' → zz_Z p l e R s m args below meth c cells slots Q nL G A M' (pc + 3) lv (.long r :: rest)) : zz_Z p l e R s m args below meth c cells slots Q nL G A M pc lv st := fun H locs ls hP hS hh => va_calll (va_runV (g := F0 m pc ls st) ⟨E.1, E.2.1, E.2.2.1, E.2.2.2.1, E.2.2.2.2.1⟩ hM cw ⟨zz_P_blind, va_recv E.2.2.2.2.2.2.1.1 hP hc (by rw [zz_W_get G M hk, hF]), fun U hU hW => zz_P_at hP E.2.2.2.2.2.2.1 hU hW⟩ rfl hn hh.1 hst (lv_room hW) hdg ⟨E.2.2.2.2.2.2.2.2.1, E.2.2.2.2.2.2.2.2.2⟩) hS (fun q _ ⟨k9, h9, e9⟩ => by rw [e9]; exact E.2.2.2.2.2.2.2.1 k9 h9) (fun q ⟨k9, h9, e9⟩ => by rw [e9]; exact E.2.2.2.2.2.2.2.1 k9 h9) (fun r M1 t H1 locs1 ht _ hp hB _ _ hS1 => kk r M1 hp H1 locs1 ls (by rw [← ht]; exact hB) hS1 hh)
theorem zz_clS (E : zz_E p R s m args c cells slots cc nL Ts own G A) {y : MethodName} {bytes : ByteArray} {maxL n index : Nat} {ret : Option FieldType} {ws : List Cond} {rm : Room} {As rest : List Value} {post : Int64 → zz_M → Prop} (hM : Met l y ws rm (zz_P G M As) (zz_Ql G post) 0 0 (zz_A G)) (cw : CallB R s args own index y bytes maxL ret ws rm 0 0 n ∧ (Cond.static y).before args s = true) (hn : As.length = n) (hst : st = As.reverse ++ rest) (hW : (rest.map fun v => v.category).sum ≤ 8) (hdg : decode cc pc = .ok (.invokestatic index, 3)) (kk : ∀ (r : Int64) (M' : zz_M), post r M' → zz_Z p l e R s m args below meth c cells slots Q nL G A M' (pc + 3) lv (.long r :: rest)) : zz_Z p l e R s m args below meth c cells slots Q nL G A M pc lv st := fun H locs ls hP hS hh => va_calll (va_runS (g := F0 m pc ls st) ⟨E.1, E.2.1, E.2.2.1, E.2.2.2.1, E.2.2.2.2.1⟩ hM cw ⟨zz_P_blind, fun U hU hW => zz_P_at hP E.2.2.2.2.2.2.1 hU hW⟩ rfl hn hh.1 hst (lv_room hW) hdg ⟨E.2.2.2.2.2.2.2.2.1, E.2.2.2.2.2.2.2.2.2⟩) hS (fun q _ ⟨k9, h9, e9⟩ => by rw [e9]; exact E.2.2.2.2.2.2.2.1 k9 h9) (fun q ⟨k9, h9, e9⟩ => by rw [e9]; exact E.2.2.2.2.2.2.2.1 k9 h9) (fun r M1 t H1 locs1 ht _ hp hB _ _ hS1 => kk r M1 hp H1 locs1 ls (by rw [← ht]; exact hB) hS1 hh)
theorem zz_clN (E : zz_E p R s m args c cells slots cc nL Ts own G A) {y : MethodName} {bytes : ByteArray} {maxL n index : Nat} {ret : Option FieldType} {ws : List Cond} {rm : Room} {As rest : List Value} {host : String} {post : Int64 → zz_M → Prop} (hM : Met l y ws rm (zz_P G M As) (zz_Ql G post) 0 0 (zz_A G)) (cw : va_CN R s args own index y host bytes maxL ret ws rm 0 0 n ∧ (Cond.static y).before args s = true ∧ True) (hn : As.length = n) (hst : st = As.reverse ++ rest) (hW : (rest.map fun v => v.category).sum ≤ 8) (hdg : decode cc pc = .ok (.invokestatic index, 3)) (kk : ∀ (r : Int64) (M' : zz_M), post r M' → zz_Z p l e R s m args below meth c cells slots Q nL G A M' (pc + 3) lv (.long r :: rest)) : zz_Z p l e R s m args below meth c cells slots Q nL G A M pc lv st := fun H locs ls hP hS hh => va_calll (va_runSN (g := F0 m pc ls st) ⟨E.1, E.2.1, E.2.2.1, E.2.2.2.1, E.2.2.2.2.1⟩ hM cw ⟨zz_P_blind, fun U hU hW => zz_P_at hP E.2.2.2.2.2.2.1 hU hW⟩ rfl hn hh.1 hst (lv_room hW) hdg ⟨E.2.2.2.2.2.2.2.2.1, E.2.2.2.2.2.2.2.2.2⟩) hS (fun q _ ⟨k9, h9, e9⟩ => by rw [e9]; exact E.2.2.2.2.2.2.2.1 k9 h9) (fun q ⟨k9, h9, e9⟩ => by rw [e9]; exact E.2.2.2.2.2.2.2.1 k9 h9) (fun r M1 t H1 locs1 ht _ hp hB _ _ hS1 => kk r M1 hp H1 locs1 ls (by rw [← ht]; exact hB) hS1 hh)
theorem zz_cvV (E : zz_E p R s m args c cells slots cc nL Ts own G A) {y : MethodName} {bytes : ByteArray} {maxL n index : Nat} {ret : Option FieldType} {ws : List Cond} {rm : Room} {As rest : List Value} {C : String} {T : u_T} {Nf ci : Nat} {fs : List Value} {post : zz_M → Prop} (k : Nat) (hM : Met l y ws rm (zz_P G M (.ref (G.2.2 k) :: As)) (zz_Qv G post) 0 0 (zz_A G)) (cw : CallW R s args own C index y bytes maxL ret ws rm 0 0 n) (hk : k < 111) (hF : zz_F G k (M k) = .inr (ci, fs)) (hc : vwCl[ci]? = some (C, T, Nf)) (hn : As.length = n) (hst : st = As.reverse ++ .ref (G.2.2 k) :: rest) (hW : (rest.map fun v => v.category).sum ≤ 8) (hdg : decode cc pc = .ok (.invokevirtual index, 3)) (kk : ∀ (M' : zz_M), post M' → zz_Z p l e R s m args below meth c cells slots Q nL G A M' (pc + 3) lv (rest)) : zz_Z p l e R s m args below meth c cells slots Q nL G A M pc lv st := fun H locs ls hP hS hh => va_callv (va_runV (g := F0 m pc ls st) ⟨E.1, E.2.1, E.2.2.1, E.2.2.2.1, E.2.2.2.2.1⟩ hM cw ⟨zz_P_blind, va_recv E.2.2.2.2.2.2.1.1 hP hc (by rw [zz_W_get G M hk, hF]), fun U hU hW => zz_P_at hP E.2.2.2.2.2.2.1 hU hW⟩ rfl hn hh.1 hst (lv_room hW) hdg ⟨E.2.2.2.2.2.2.2.2.1, E.2.2.2.2.2.2.2.2.2⟩) hS (fun q _ ⟨k9, h9, e9⟩ => by rw [e9]; exact E.2.2.2.2.2.2.2.1 k9 h9) (fun q ⟨k9, h9, e9⟩ => by rw [e9]; exact E.2.2.2.2.2.2.2.1 k9 h9) (fun M1 t H1 locs1 ht _ hp hB _ _ hS1 => kk M1 hp H1 locs1 ls (by rw [← ht]; exact hB) hS1 hh)
theorem zz_cvS (E : zz_E p R s m args c cells slots cc nL Ts own G A) {y : MethodName} {bytes : ByteArray} {maxL n index : Nat} {ret : Option FieldType} {ws : List Cond} {rm : Room} {As rest : List Value} {post : zz_M → Prop} (hM : Met l y ws rm (zz_P G M As) (zz_Qv G post) 0 0 (zz_A G)) (cw : CallB R s args own index y bytes maxL ret ws rm 0 0 n ∧ (Cond.static y).before args s = true) (hn : As.length = n) (hst : st = As.reverse ++ rest) (hW : (rest.map fun v => v.category).sum ≤ 8) (hdg : decode cc pc = .ok (.invokestatic index, 3)) (kk : ∀ (M' : zz_M), post M' → zz_Z p l e R s m args below meth c cells slots Q nL G A M' (pc + 3) lv (rest)) : zz_Z p l e R s m args below meth c cells slots Q nL G A M pc lv st := fun H locs ls hP hS hh => va_callv (va_runS (g := F0 m pc ls st) ⟨E.1, E.2.1, E.2.2.1, E.2.2.2.1, E.2.2.2.2.1⟩ hM cw ⟨zz_P_blind, fun U hU hW => zz_P_at hP E.2.2.2.2.2.2.1 hU hW⟩ rfl hn hh.1 hst (lv_room hW) hdg ⟨E.2.2.2.2.2.2.2.2.1, E.2.2.2.2.2.2.2.2.2⟩) hS (fun q _ ⟨k9, h9, e9⟩ => by rw [e9]; exact E.2.2.2.2.2.2.2.1 k9 h9) (fun q ⟨k9, h9, e9⟩ => by rw [e9]; exact E.2.2.2.2.2.2.2.1 k9 h9) (fun M1 t H1 locs1 ht _ hp hB _ _ hS1 => kk M1 hp H1 locs1 ls (by rw [← ht]; exact hB) hS1 hh)
theorem zz_cvN (E : zz_E p R s m args c cells slots cc nL Ts own G A) {y : MethodName} {bytes : ByteArray} {maxL n index : Nat} {ret : Option FieldType} {ws : List Cond} {rm : Room} {As rest : List Value} {host : String} {post : zz_M → Prop} (hM : Met l y ws rm (zz_P G M As) (zz_Qv G post) 0 0 (zz_A G)) (cw : va_CN R s args own index y host bytes maxL ret ws rm 0 0 n ∧ (Cond.static y).before args s = true ∧ True) (hn : As.length = n) (hst : st = As.reverse ++ rest) (hW : (rest.map fun v => v.category).sum ≤ 8) (hdg : decode cc pc = .ok (.invokestatic index, 3)) (kk : ∀ (M' : zz_M), post M' → zz_Z p l e R s m args below meth c cells slots Q nL G A M' (pc + 3) lv (rest)) : zz_Z p l e R s m args below meth c cells slots Q nL G A M pc lv st := fun H locs ls hP hS hh => va_callv (va_runSN (g := F0 m pc ls st) ⟨E.1, E.2.1, E.2.2.1, E.2.2.2.1, E.2.2.2.2.1⟩ hM cw ⟨zz_P_blind, fun U hU hW => zz_P_at hP E.2.2.2.2.2.2.1 hU hW⟩ rfl hn hh.1 hst (lv_room hW) hdg ⟨E.2.2.2.2.2.2.2.2.1, E.2.2.2.2.2.2.2.2.2⟩) hS (fun q _ ⟨k9, h9, e9⟩ => by rw [e9]; exact E.2.2.2.2.2.2.2.1 k9 h9) (fun q ⟨k9, h9, e9⟩ => by rw [e9]; exact E.2.2.2.2.2.2.2.1 k9 h9) (fun M1 t H1 locs1 ht _ hp hB _ _ hS1 => kk M1 hp H1 locs1 ls (by rw [← ht]; exact hB) hS1 hh)
theorem zz_iret (E : zz_E p R s m args c cells slots cc nL Ts own G (zz_A G)) {post : Int32 → zz_M → Prop} {r : Int32} (hr : meth.sig.returnType = some .int) (hlocks : meth.locks = false) (hdg : decode cc pc = .ok (.ireturn, 1)) (hp : post r M) : zz_Z p l e R s m args below meth c cells slots (MQ below (zz_Qi G post) args s cells slots (zz_A G)) nL G (zz_A G) M pc lv [.int r] := fun H locs ls hP hS hh => W.iret E.1 E.2.1 hr (fun t ht hW => ⟨⟨r, M, rfl, hp, by show va_P G.1 vwCl (zz_W G M) t.heap; rw [ht]; exact hP⟩, hS.F ht⟩) hS.2.2 hdg
theorem zz_zret (E : zz_E p R s m args c cells slots cc nL Ts own G (zz_A G)) {post : Int32 → zz_M → Prop} {r : Int32} (hr : meth.sig.returnType = some .boolean) (hlocks : meth.locks = false) (hdg : decode cc pc = .ok (.ireturn, 1)) (hz : r = 0 ∨ r = 1) (hp : post r M) : zz_Z p l e R s m args below meth c cells slots (MQ below (zz_Qi G post) args s cells slots (zz_A G)) nL G (zz_A G) M pc lv [.int r] := fun H locs ls hP hS hh => W.zret E.1 E.2.1 hr (by rcases hz with rfl | rfl <;> rfl) (fun t ht hW => ⟨⟨r, M, rfl, hp, by show va_P G.1 vwCl (zz_W G M) t.heap; rw [ht]; exact hP⟩, hS.F ht⟩) hS.2.2 hdg
theorem zz_lret (E : zz_E p R s m args c cells slots cc nL Ts own G (zz_A G)) {post : Int64 → zz_M → Prop} {r : Int64} (hr : meth.sig.returnType = some .long) (hlocks : meth.locks = false) (hdg : decode cc pc = .ok (.lreturn, 1)) (hp : post r M) : zz_Z p l e R s m args below meth c cells slots (MQ below (zz_Ql G post) args s cells slots (zz_A G)) nL G (zz_A G) M pc lv [.long r] := fun H locs ls hP hS hh => W.lret E.1 E.2.1 hr (fun t ht hW => ⟨⟨r, M, rfl, hp, by show va_P G.1 vwCl (zz_W G M) t.heap; rw [ht]; exact hP⟩, hS.F ht⟩) hS.2.2 hdg
theorem zz_vret (E : zz_E p R s m args c cells slots cc nL Ts own G (zz_A G)) {post : zz_M → Prop} (hr : meth.sig.returnType = none) (hlocks : meth.locks = false) (hdg : decode cc pc = .ok (.return_, 1)) (hp : post M) : zz_Z p l e R s m args below meth c cells slots (MQ below (zz_Qv G post) args s cells slots (zz_A G)) nL G (zz_A G) M pc lv [] := fun H locs ls hP hS hh => W.vret E.1 E.2.1 hr (fun t ht hW => ⟨⟨M, rfl, hp, by show va_P G.1 vwCl (zz_W G M) t.heap; rw [ht]; exact hP⟩, hS.F ht⟩) hS.2.2 hdg
end ZZ
theorem zz_start {l : Launch} {y : MethodName} {ws ws' : List Cond} {rm : Room} {cc : ByteArray} {maxL : Nat} {ret : Option FieldType} {G : zz_C} {M : zz_M} {av : List Value} {Qc : Array Value → State → Outcome → State → Prop} (hJ : zz_J G) (hy : plainName y.cls = true) (hw : ws = Cond.code y cc maxL ret :: ws') (hlen : (lg_sl av).length ≤ maxL)
    (body : ∀ (p : Program) (e : Env) (s : State) (m : MethodId) (below : List Frame) (meth : Method) (c : Code), zz_E p (headSpec ws rm).room s m av.toArray c 0 0 cc maxL ws y.cls G (zz_A G) → meth.sig.returnType = ret → meth.locks = false →
      zz_Z p l e (headSpec ws rm).room s m av.toArray below meth c 0 0 (MQ below Qc av.toArray s 0 0 (zz_A G)) maxL G (zz_A G) M 0 (lv_args 0 av) []) : Met l y ws rm (zz_P G M av) Qc 0 0 (zz_A G) := by
  refine Met.ofW (cc := cc) (maxL := maxL) (ret := ret) hy hw ?_
  intro p e s m args below meth c s₁ B hml hv
  obtain ⟨rfl, hP, hK⟩ := hv
  have hl := lv_entry av (n := maxL) hlen
  rw [lg_entry_eq]
  exact body p e s m below meth c ⟨B.exec, B.bytes, hml, findClass_of_methodNamed B.named, atoms_spec (ws := ws) B.pre, hJ, hK, fun k hk => ⟨k, hk, rfl⟩, Nat.zero_le _, Nat.zero_le _⟩ B.returns B.notSynchronized s.heap [] _ hP va_S.rf hl
end
section
/-! numbers -/
def zz_b (b : Bool) : Int32 := if b then 1 else 0
theorem zz_b01 (b : Bool) : zz_b b = 0 ∨ zz_b b = 1 := by cases b <;> simp [zz_b]
theorem zz_b_eq0 {b : Bool} : zz_b b = 0 ↔ b = false := by cases b <;> simp [zz_b]
theorem zn_mul (a b : Nat) : nI a * nI b = nI (a * b) := (Int32.ofNat_mul a b).symm
theorem zn_sub {a b : Nat} (h : b ≤ a) : nI a - nI b = nI (a - b) := by
  have e := nI_add (a - b) b
  rw [Nat.sub_add_cancel h] at e
  rw [← e, Int32.add_sub_cancel]
theorem zn_div {a b : Nat} (ha : a < 2 ^ 31) (hb : b < 2 ^ 31) : nI a / nI b = nI (a / b) := by
  have hd : a / b ≤ a := Nat.div_le_self a b
  have hq : (0 : Int) ≤ (a : Int) / (b : Int) := Int.ediv_nonneg (by omega) (by omega)
  apply Int32.toInt_inj.mp
  rw [Int32.toInt_div, nI_toInt ha, nI_toInt hb, nI_toInt (by omega), Int.tdiv_eq_ediv_of_nonneg (by omega), Int.bmod_eq_of_le (by omega) (by omega)]
  omega
theorem zn_mod {a b : Nat} (ha : a < 2 ^ 31) (hb : b < 2 ^ 31) : nI a - nI a / nI b * nI b = nI (a % b) := by
  have hd : a / b * b ≤ a := Nat.div_mul_le_self a b
  rw [zn_div ha hb, zn_mul, zn_sub hd]
  congr 1
  have := Nat.div_add_mod a b
  rw [Nat.mul_comm] at this
  omega
theorem zl_toInt {n : Nat} (h : n < 2 ^ 63) : (lN n).toInt = (n : Int) := Int64.toInt_ofNat_of_lt h
theorem zl_le {a b : Nat} (ha : a < 2 ^ 63) (hb : b < 2 ^ 63) : lN a ≤ lN b ↔ a ≤ b := by
  rw [Int64.le_iff_toInt_le, zl_toInt ha, zl_toInt hb]; omega
theorem zl_lt {a b : Nat} (ha : a < 2 ^ 63) (hb : b < 2 ^ 63) : lN a < lN b ↔ a < b := by
  rw [Int64.lt_iff_toInt_lt, zl_toInt ha, zl_toInt hb]; omega
theorem zl_eq {a b : Nat} (ha : a < 2 ^ 63) (hb : b < 2 ^ 63) : lN a = lN b ↔ a = b := by
  rw [← Int64.toInt_inj, zl_toInt ha, zl_toInt hb]; omega
theorem zl_div {a b : Nat} (ha : a < 2 ^ 63) (hb : b < 2 ^ 63) : lN a / lN b = lN (a / b) := by
  have hd : a / b ≤ a := Nat.div_le_self a b
  have hq : (0 : Int) ≤ (a : Int) / (b : Int) := Int.ediv_nonneg (by omega) (by omega)
  apply Int64.toInt_inj.mp
  rw [Int64.toInt_div, zl_toInt ha, zl_toInt hb, zl_toInt (by omega), Int.tdiv_eq_ediv_of_nonneg (by omega), Int.bmod_eq_of_le (by omega) (by omega)]
  omega
theorem zl_mod {a b : Nat} (ha : a < 2 ^ 63) (hb : b < 2 ^ 63) : lN a - lN a / lN b * lN b = lN (a % b) := by
  have hd : a / b * b ≤ a := Nat.div_mul_le_self a b
  rw [zl_div ha hb, lN_mul, lN_sub hd]
  congr 1
  have := Nat.div_add_mod a b
  rw [Nat.mul_comm] at this
  omega
theorem zn_ne0 {b : Nat} (h0 : 0 < b) (hb : b < 2 ^ 31) : ¬ nI b = 0 := nI_ne0 h0 hb
theorem zl_ne0 {b : Nat} (h0 : 0 < b) (hb : b < 2 ^ 63) : ¬ lN b = 0 := fun e => by
  have e : lN b = lN 0 := e
  rw [zl_eq hb (by omega)] at e
  omega
section ZN
variable {p : Program} {l : Launch} {e : Env} {R : Room} {s : State} {m : MethodId} {args : Array Value} {below : List Frame} {meth : Method} {c : Code} {cells slots : Nat} {Q : State → Prop}
variable {cc : ByteArray} {nL : Nat} {Ts : List Cond} {own : String} {G : zz_C} {A : Nat → Prop} {M : zz_M} {pc : Nat} {lv : List (Nat × Value)} {st : List Value}
theorem zn_iadd (E : zz_E p R s m args c cells slots cc nL Ts own G A) {a b : Nat} (hdg : decode cc pc = .ok (.iadd, 1))  (kk : zz_Z p l e R s m args below meth c cells slots Q nL G A M (pc + 1) lv (.int (nI (a + b)) :: st)) : zz_Z p l e R s m args below meth c cells slots Q nL G A M pc lv (.int (nI b) :: .int (nI a) :: st) := zz_iadd E hdg (zz_eqi (nI_add a b) kk)
theorem zn_imul (E : zz_E p R s m args c cells slots cc nL Ts own G A) {a b : Nat} (hdg : decode cc pc = .ok (.imul, 1))  (kk : zz_Z p l e R s m args below meth c cells slots Q nL G A M (pc + 1) lv (.int (nI (a * b)) :: st)) : zz_Z p l e R s m args below meth c cells slots Q nL G A M pc lv (.int (nI b) :: .int (nI a) :: st) := zz_imul E hdg (zz_eqi (zn_mul a b) kk)
theorem zn_isub (E : zz_E p R s m args c cells slots cc nL Ts own G A) {a b : Nat} (hdg : decode cc pc = .ok (.isub, 1)) (h : b ≤ a) (kk : zz_Z p l e R s m args below meth c cells slots Q nL G A M (pc + 1) lv (.int (nI (a - b)) :: st)) : zz_Z p l e R s m args below meth c cells slots Q nL G A M pc lv (.int (nI b) :: .int (nI a) :: st) := zz_isub E hdg (zz_eqi (zn_sub h) kk)
theorem zn_idiv (E : zz_E p R s m args c cells slots cc nL Ts own G A) {a b : Nat} (hdg : decode cc pc = .ok (.idiv, 1)) (h0 : 0 < b) (ha : a < 2 ^ 31) (hb : b < 2 ^ 31) (kk : zz_Z p l e R s m args below meth c cells slots Q nL G A M (pc + 1) lv (.int (nI (a / b)) :: st)) : zz_Z p l e R s m args below meth c cells slots Q nL G A M pc lv (.int (nI b) :: .int (nI a) :: st) := zz_idiv E hdg (zn_ne0 h0 hb) (zz_eqi (zn_div ha hb) kk)
theorem zn_irem (E : zz_E p R s m args c cells slots cc nL Ts own G A) {a b : Nat} (hdg : decode cc pc = .ok (.irem, 1)) (h0 : 0 < b) (ha : a < 2 ^ 31) (hb : b < 2 ^ 31) (kk : zz_Z p l e R s m args below meth c cells slots Q nL G A M (pc + 1) lv (.int (nI (a % b)) :: st)) : zz_Z p l e R s m args below meth c cells slots Q nL G A M pc lv (.int (nI b) :: .int (nI a) :: st) := zz_irem E hdg (zn_ne0 h0 hb) (zz_eqi (zn_mod ha hb) kk)
theorem zn_ladd (E : zz_E p R s m args c cells slots cc nL Ts own G A) {a b : Nat} (hdg : decode cc pc = .ok (.ladd, 1))  (kk : zz_Z p l e R s m args below meth c cells slots Q nL G A M (pc + 1) lv (.long (lN (a + b)) :: st)) : zz_Z p l e R s m args below meth c cells slots Q nL G A M pc lv (.long (lN b) :: .long (lN a) :: st) := zz_ladd E hdg (zz_eql (lN_add a b) kk)
theorem zn_lmul (E : zz_E p R s m args c cells slots cc nL Ts own G A) {a b : Nat} (hdg : decode cc pc = .ok (.lmul, 1))  (kk : zz_Z p l e R s m args below meth c cells slots Q nL G A M (pc + 1) lv (.long (lN (a * b)) :: st)) : zz_Z p l e R s m args below meth c cells slots Q nL G A M pc lv (.long (lN b) :: .long (lN a) :: st) := zz_lmul E hdg (zz_eql (lN_mul a b) kk)
theorem zn_ldiv (E : zz_E p R s m args c cells slots cc nL Ts own G A) {a b : Nat} (hdg : decode cc pc = .ok (.ldiv, 1)) (h0 : 0 < b) (ha : a < 2 ^ 63) (hb : b < 2 ^ 63) (kk : zz_Z p l e R s m args below meth c cells slots Q nL G A M (pc + 1) lv (.long (lN (a / b)) :: st)) : zz_Z p l e R s m args below meth c cells slots Q nL G A M pc lv (.long (lN b) :: .long (lN a) :: st) := zz_ldiv E hdg (zl_ne0 h0 hb) (zz_eql (zl_div ha hb) kk)
theorem zn_lrem (E : zz_E p R s m args c cells slots cc nL Ts own G A) {a b : Nat} (hdg : decode cc pc = .ok (.lrem, 1)) (h0 : 0 < b) (ha : a < 2 ^ 63) (hb : b < 2 ^ 63) (kk : zz_Z p l e R s m args below meth c cells slots Q nL G A M (pc + 1) lv (.long (lN (a % b)) :: st)) : zz_Z p l e R s m args below meth c cells slots Q nL G A M pc lv (.long (lN b) :: .long (lN a) :: st) := zz_lrem E hdg (zl_ne0 h0 hb) (zz_eql (zl_mod ha hb) kk)
theorem zn_i2l (E : zz_E p R s m args c cells slots cc nL Ts own G A) {a : Nat} (hdg : decode cc pc = .ok (.i2l, 1)) (ha : a < 2 ^ 31) (kk : zz_Z p l e R s m args below meth c cells slots Q nL G A M (pc + 1) lv (.long (lN a) :: st)) : zz_Z p l e R s m args below meth c cells slots Q nL G A M pc lv (.int (nI a) :: st) := zz_i2l E hdg (nI_l ha) kk
theorem zn_l2i (E : zz_E p R s m args c cells slots cc nL Ts own G A) {a : Nat} (hdg : decode cc pc = .ok (.l2i, 1)) (kk : zz_Z p l e R s m args below meth c cells slots Q nL G A M (pc + 1) lv (.int (nI a) :: st)) : zz_Z p l e R s m args below meth c cells slots Q nL G A M pc lv (.long (lN a) :: st) := zz_l2i E hdg (lN_i a) kk
theorem zn_inc (E : zz_E p R s m args c cells slots cc nL Ts own G A) {i a : Nat} {lv' : List (Nat × Value)} (hdg : decode cc pc = .ok (.iinc i 1, 3)) (hg : zz_get lv i = some (.int (nI a))) (hn : i < nL) (hl : zz_set i (.int (nI (a + 1))) lv = lv') (kk : zz_Z p l e R s m args below meth c cells slots Q nL G A M (pc + 3) lv' st) : zz_Z p l e R s m args below meth c cells slots Q nL G A M pc lv st := zz_iinc E hdg hg (nI_1 a) hn hl kk
theorem zn_dec (E : zz_E p R s m args c cells slots cc nL Ts own G A) {i a : Nat} {lv' : List (Nat × Value)} (hdg : decode cc pc = .ok (.iinc i (-1), 3)) (hg : zz_get lv i = some (.int (nI (a + 1)))) (hn : i < nL) (hl : zz_set i (.int (nI a)) lv = lv') (kk : zz_Z p l e R s m args below meth c cells slots Q nL G A M (pc + 3) lv' st) : zz_Z p l e R s m args below meth c cells slots Q nL G A M pc lv st := zz_iinc E hdg hg (by rw [show Int32.ofInt (-1) = -1 by decide, ← Int32.sub_eq_add_neg]; exact nI_pred a) hn hl kk
theorem zn_icmp_eq (E : zz_E p R s m args c cells slots cc nL Ts own G A) {a b : Nat} {off : Int} {tgt : Nat} (hdg : decode cc pc = .ok (.if_icmp .eq off, 3)) (ht : (pc : Int) + off = (tgt : Int)) (ha : a < 2 ^ 31) (hb : b < 2 ^ 31) (kt : a = b → zz_Z p l e R s m args below meth c cells slots Q nL G A M tgt lv st) (kf : ¬ a = b → zz_Z p l e R s m args below meth c cells slots Q nL G A M (pc + 3) lv st) : zz_Z p l e R s m args below meth c cells slots Q nL G A M pc lv (.int (nI b) :: .int (nI a) :: st) := zz_icmp_eq E hdg ht (fun q => kt ((nI_eq ha hb).mp q)) (fun q => kf (fun z => q ((nI_eq ha hb).mpr z)))
theorem zn_lcmp_eq (E : zz_E p R s m args c cells slots cc nL Ts own G A) {a b : Nat} {off : Int} {tgt : Nat} (hdg : decode cc pc = .ok (.lcmp, 1)) (hdg2 : decode cc (pc + 1) = .ok (.ifCond .eq off, 3)) (ht : ((pc + 1 : Nat) : Int) + off = (tgt : Int)) (ha : a < 2 ^ 63) (hb : b < 2 ^ 63) (kt : a = b → zz_Z p l e R s m args below meth c cells slots Q nL G A M tgt lv st) (kf : ¬ a = b → zz_Z p l e R s m args below meth c cells slots Q nL G A M (pc + 4) lv st) : zz_Z p l e R s m args below meth c cells slots Q nL G A M pc lv (.long (lN b) :: .long (lN a) :: st) := zz_lcmp E hdg (zz_if_eq E hdg2 ht (fun q => kt (((lg_cmp_eq (lN a) (lN b)).trans (zl_eq ha hb)).mp q)) (fun q => kf (fun z => q (((lg_cmp_eq (lN a) (lN b)).trans (zl_eq ha hb)).mpr z))))
theorem zn_if_eq (E : zz_E p R s m args c cells slots cc nL Ts own G A) {a : Nat} {off : Int} {tgt : Nat} (hdg : decode cc pc = .ok (.ifCond .eq off, 3)) (ht : (pc : Int) + off = (tgt : Int)) (ha : a < 2 ^ 31) (kt : a = 0 → zz_Z p l e R s m args below meth c cells slots Q nL G A M tgt lv st) (kf : ¬ a = 0 → zz_Z p l e R s m args below meth c cells slots Q nL G A M (pc + 3) lv st) : zz_Z p l e R s m args below meth c cells slots Q nL G A M pc lv (.int (nI a) :: st) := by
  have hb : 0 < 2 ^ 31 := by decide
  exact zz_if_eq E hdg ht (fun q => kt ((nI_eq ha hb).mp q)) (fun q => kf (fun z => q ((nI_eq ha hb).mpr z)))
theorem zn_icmp_ne (E : zz_E p R s m args c cells slots cc nL Ts own G A) {a b : Nat} {off : Int} {tgt : Nat} (hdg : decode cc pc = .ok (.if_icmp .ne off, 3)) (ht : (pc : Int) + off = (tgt : Int)) (ha : a < 2 ^ 31) (hb : b < 2 ^ 31) (kt : ¬ a = b → zz_Z p l e R s m args below meth c cells slots Q nL G A M tgt lv st) (kf : a = b → zz_Z p l e R s m args below meth c cells slots Q nL G A M (pc + 3) lv st) : zz_Z p l e R s m args below meth c cells slots Q nL G A M pc lv (.int (nI b) :: .int (nI a) :: st) := zz_icmp_ne E hdg ht (fun q => kt (fun z => q ((nI_eq ha hb).mpr z))) (fun q => kf ((nI_eq ha hb).mp q))
theorem zn_lcmp_ne (E : zz_E p R s m args c cells slots cc nL Ts own G A) {a b : Nat} {off : Int} {tgt : Nat} (hdg : decode cc pc = .ok (.lcmp, 1)) (hdg2 : decode cc (pc + 1) = .ok (.ifCond .ne off, 3)) (ht : ((pc + 1 : Nat) : Int) + off = (tgt : Int)) (ha : a < 2 ^ 63) (hb : b < 2 ^ 63) (kt : ¬ a = b → zz_Z p l e R s m args below meth c cells slots Q nL G A M tgt lv st) (kf : a = b → zz_Z p l e R s m args below meth c cells slots Q nL G A M (pc + 4) lv st) : zz_Z p l e R s m args below meth c cells slots Q nL G A M pc lv (.long (lN b) :: .long (lN a) :: st) := zz_lcmp E hdg (zz_if_ne E hdg2 ht (fun q => kt (fun z => q (((lg_cmp_eq (lN a) (lN b)).trans (zl_eq ha hb)).mpr z))) (fun q => kf (((lg_cmp_eq (lN a) (lN b)).trans (zl_eq ha hb)).mp q)))
theorem zn_if_ne (E : zz_E p R s m args c cells slots cc nL Ts own G A) {a : Nat} {off : Int} {tgt : Nat} (hdg : decode cc pc = .ok (.ifCond .ne off, 3)) (ht : (pc : Int) + off = (tgt : Int)) (ha : a < 2 ^ 31) (kt : ¬ a = 0 → zz_Z p l e R s m args below meth c cells slots Q nL G A M tgt lv st) (kf : a = 0 → zz_Z p l e R s m args below meth c cells slots Q nL G A M (pc + 3) lv st) : zz_Z p l e R s m args below meth c cells slots Q nL G A M pc lv (.int (nI a) :: st) := by
  have hb : 0 < 2 ^ 31 := by decide
  exact zz_if_ne E hdg ht (fun q => kt (fun z => q ((nI_eq ha hb).mpr z))) (fun q => kf ((nI_eq ha hb).mp q))
theorem zn_icmp_lt (E : zz_E p R s m args c cells slots cc nL Ts own G A) {a b : Nat} {off : Int} {tgt : Nat} (hdg : decode cc pc = .ok (.if_icmp .lt off, 3)) (ht : (pc : Int) + off = (tgt : Int)) (ha : a < 2 ^ 31) (hb : b < 2 ^ 31) (kt : a < b → zz_Z p l e R s m args below meth c cells slots Q nL G A M tgt lv st) (kf : b ≤ a → zz_Z p l e R s m args below meth c cells slots Q nL G A M (pc + 3) lv st) : zz_Z p l e R s m args below meth c cells slots Q nL G A M pc lv (.int (nI b) :: .int (nI a) :: st) := zz_icmp_lt E hdg ht (fun q => kt ((nI_ltI ha hb).mp q)) (fun q => kf (Nat.not_lt.mp (fun z => q ((nI_ltI ha hb).mpr z))))
theorem zn_lcmp_lt (E : zz_E p R s m args c cells slots cc nL Ts own G A) {a b : Nat} {off : Int} {tgt : Nat} (hdg : decode cc pc = .ok (.lcmp, 1)) (hdg2 : decode cc (pc + 1) = .ok (.ifCond .lt off, 3)) (ht : ((pc + 1 : Nat) : Int) + off = (tgt : Int)) (ha : a < 2 ^ 63) (hb : b < 2 ^ 63) (kt : a < b → zz_Z p l e R s m args below meth c cells slots Q nL G A M tgt lv st) (kf : b ≤ a → zz_Z p l e R s m args below meth c cells slots Q nL G A M (pc + 4) lv st) : zz_Z p l e R s m args below meth c cells slots Q nL G A M pc lv (.long (lN b) :: .long (lN a) :: st) := zz_lcmp E hdg (zz_if_lt E hdg2 ht (fun q => kt (((lg_cmp_lt (lN a) (lN b)).trans (zl_lt ha hb)).mp q)) (fun q => kf (Nat.not_lt.mp (fun z => q (((lg_cmp_lt (lN a) (lN b)).trans (zl_lt ha hb)).mpr z)))))
theorem zn_if_lt (E : zz_E p R s m args c cells slots cc nL Ts own G A) {a : Nat} {off : Int} {tgt : Nat} (hdg : decode cc pc = .ok (.ifCond .lt off, 3)) (ht : (pc : Int) + off = (tgt : Int)) (ha : a < 2 ^ 31) (kt : a < 0 → zz_Z p l e R s m args below meth c cells slots Q nL G A M tgt lv st) (kf : 0 ≤ a → zz_Z p l e R s m args below meth c cells slots Q nL G A M (pc + 3) lv st) : zz_Z p l e R s m args below meth c cells slots Q nL G A M pc lv (.int (nI a) :: st) := by
  have hb : 0 < 2 ^ 31 := by decide
  exact zz_if_lt E hdg ht (fun q => kt ((nI_ltI ha hb).mp q)) (fun q => kf (Nat.not_lt.mp (fun z => q ((nI_ltI ha hb).mpr z))))
theorem zn_icmp_ge (E : zz_E p R s m args c cells slots cc nL Ts own G A) {a b : Nat} {off : Int} {tgt : Nat} (hdg : decode cc pc = .ok (.if_icmp .ge off, 3)) (ht : (pc : Int) + off = (tgt : Int)) (ha : a < 2 ^ 31) (hb : b < 2 ^ 31) (kt : b ≤ a → zz_Z p l e R s m args below meth c cells slots Q nL G A M tgt lv st) (kf : a < b → zz_Z p l e R s m args below meth c cells slots Q nL G A M (pc + 3) lv st) : zz_Z p l e R s m args below meth c cells slots Q nL G A M pc lv (.int (nI b) :: .int (nI a) :: st) := zz_icmp_ge E hdg ht (fun q => kt ((nI_leI hb ha).mp q)) (fun q => kf (Nat.not_le.mp (fun z => q ((nI_leI hb ha).mpr z))))
theorem zn_lcmp_ge (E : zz_E p R s m args c cells slots cc nL Ts own G A) {a b : Nat} {off : Int} {tgt : Nat} (hdg : decode cc pc = .ok (.lcmp, 1)) (hdg2 : decode cc (pc + 1) = .ok (.ifCond .ge off, 3)) (ht : ((pc + 1 : Nat) : Int) + off = (tgt : Int)) (ha : a < 2 ^ 63) (hb : b < 2 ^ 63) (kt : b ≤ a → zz_Z p l e R s m args below meth c cells slots Q nL G A M tgt lv st) (kf : a < b → zz_Z p l e R s m args below meth c cells slots Q nL G A M (pc + 4) lv st) : zz_Z p l e R s m args below meth c cells slots Q nL G A M pc lv (.long (lN b) :: .long (lN a) :: st) := zz_lcmp E hdg (zz_if_ge E hdg2 ht (fun q => kt (((lg_cmp_ge (lN a) (lN b)).trans (zl_le hb ha)).mp q)) (fun q => kf (Nat.not_le.mp (fun z => q (((lg_cmp_ge (lN a) (lN b)).trans (zl_le hb ha)).mpr z)))))
theorem zn_if_ge (E : zz_E p R s m args c cells slots cc nL Ts own G A) {a : Nat} {off : Int} {tgt : Nat} (hdg : decode cc pc = .ok (.ifCond .ge off, 3)) (ht : (pc : Int) + off = (tgt : Int)) (ha : a < 2 ^ 31) (kt : 0 ≤ a → zz_Z p l e R s m args below meth c cells slots Q nL G A M tgt lv st) (kf : a < 0 → zz_Z p l e R s m args below meth c cells slots Q nL G A M (pc + 3) lv st) : zz_Z p l e R s m args below meth c cells slots Q nL G A M pc lv (.int (nI a) :: st) := by
  have hb : 0 < 2 ^ 31 := by decide
  exact zz_if_ge E hdg ht (fun q => kt ((nI_leI hb ha).mp q)) (fun q => kf (Nat.not_le.mp (fun z => q ((nI_leI hb ha).mpr z))))
theorem zn_icmp_gt (E : zz_E p R s m args c cells slots cc nL Ts own G A) {a b : Nat} {off : Int} {tgt : Nat} (hdg : decode cc pc = .ok (.if_icmp .gt off, 3)) (ht : (pc : Int) + off = (tgt : Int)) (ha : a < 2 ^ 31) (hb : b < 2 ^ 31) (kt : b < a → zz_Z p l e R s m args below meth c cells slots Q nL G A M tgt lv st) (kf : a ≤ b → zz_Z p l e R s m args below meth c cells slots Q nL G A M (pc + 3) lv st) : zz_Z p l e R s m args below meth c cells slots Q nL G A M pc lv (.int (nI b) :: .int (nI a) :: st) := zz_icmp_gt E hdg ht (fun q => kt ((nI_ltI hb ha).mp q)) (fun q => kf (Nat.not_lt.mp (fun z => q ((nI_ltI hb ha).mpr z))))
theorem zn_lcmp_gt (E : zz_E p R s m args c cells slots cc nL Ts own G A) {a b : Nat} {off : Int} {tgt : Nat} (hdg : decode cc pc = .ok (.lcmp, 1)) (hdg2 : decode cc (pc + 1) = .ok (.ifCond .gt off, 3)) (ht : ((pc + 1 : Nat) : Int) + off = (tgt : Int)) (ha : a < 2 ^ 63) (hb : b < 2 ^ 63) (kt : b < a → zz_Z p l e R s m args below meth c cells slots Q nL G A M tgt lv st) (kf : a ≤ b → zz_Z p l e R s m args below meth c cells slots Q nL G A M (pc + 4) lv st) : zz_Z p l e R s m args below meth c cells slots Q nL G A M pc lv (.long (lN b) :: .long (lN a) :: st) := zz_lcmp E hdg (zz_if_gt E hdg2 ht (fun q => kt (((lg_cmp_gt (lN a) (lN b)).trans (zl_lt hb ha)).mp q)) (fun q => kf (Nat.not_lt.mp (fun z => q (((lg_cmp_gt (lN a) (lN b)).trans (zl_lt hb ha)).mpr z)))))
theorem zn_if_gt (E : zz_E p R s m args c cells slots cc nL Ts own G A) {a : Nat} {off : Int} {tgt : Nat} (hdg : decode cc pc = .ok (.ifCond .gt off, 3)) (ht : (pc : Int) + off = (tgt : Int)) (ha : a < 2 ^ 31) (kt : 0 < a → zz_Z p l e R s m args below meth c cells slots Q nL G A M tgt lv st) (kf : a ≤ 0 → zz_Z p l e R s m args below meth c cells slots Q nL G A M (pc + 3) lv st) : zz_Z p l e R s m args below meth c cells slots Q nL G A M pc lv (.int (nI a) :: st) := by
  have hb : 0 < 2 ^ 31 := by decide
  exact zz_if_gt E hdg ht (fun q => kt ((nI_ltI hb ha).mp q)) (fun q => kf (Nat.not_lt.mp (fun z => q ((nI_ltI hb ha).mpr z))))
theorem zn_icmp_le (E : zz_E p R s m args c cells slots cc nL Ts own G A) {a b : Nat} {off : Int} {tgt : Nat} (hdg : decode cc pc = .ok (.if_icmp .le off, 3)) (ht : (pc : Int) + off = (tgt : Int)) (ha : a < 2 ^ 31) (hb : b < 2 ^ 31) (kt : a ≤ b → zz_Z p l e R s m args below meth c cells slots Q nL G A M tgt lv st) (kf : b < a → zz_Z p l e R s m args below meth c cells slots Q nL G A M (pc + 3) lv st) : zz_Z p l e R s m args below meth c cells slots Q nL G A M pc lv (.int (nI b) :: .int (nI a) :: st) := zz_icmp_le E hdg ht (fun q => kt ((nI_leI ha hb).mp q)) (fun q => kf (Nat.not_le.mp (fun z => q ((nI_leI ha hb).mpr z))))
theorem zn_lcmp_le (E : zz_E p R s m args c cells slots cc nL Ts own G A) {a b : Nat} {off : Int} {tgt : Nat} (hdg : decode cc pc = .ok (.lcmp, 1)) (hdg2 : decode cc (pc + 1) = .ok (.ifCond .le off, 3)) (ht : ((pc + 1 : Nat) : Int) + off = (tgt : Int)) (ha : a < 2 ^ 63) (hb : b < 2 ^ 63) (kt : a ≤ b → zz_Z p l e R s m args below meth c cells slots Q nL G A M tgt lv st) (kf : b < a → zz_Z p l e R s m args below meth c cells slots Q nL G A M (pc + 4) lv st) : zz_Z p l e R s m args below meth c cells slots Q nL G A M pc lv (.long (lN b) :: .long (lN a) :: st) := zz_lcmp E hdg (zz_if_le E hdg2 ht (fun q => kt (((lg_cmp_le (lN a) (lN b)).trans (zl_le ha hb)).mp q)) (fun q => kf (Nat.not_le.mp (fun z => q (((lg_cmp_le (lN a) (lN b)).trans (zl_le ha hb)).mpr z)))))
theorem zn_if_le (E : zz_E p R s m args c cells slots cc nL Ts own G A) {a : Nat} {off : Int} {tgt : Nat} (hdg : decode cc pc = .ok (.ifCond .le off, 3)) (ht : (pc : Int) + off = (tgt : Int)) (ha : a < 2 ^ 31) (kt : a ≤ 0 → zz_Z p l e R s m args below meth c cells slots Q nL G A M tgt lv st) (kf : 0 < a → zz_Z p l e R s m args below meth c cells slots Q nL G A M (pc + 3) lv st) : zz_Z p l e R s m args below meth c cells slots Q nL G A M pc lv (.int (nI a) :: st) := by
  have hb : 0 < 2 ^ 31 := by decide
  exact zz_if_le E hdg ht (fun q => kt ((nI_leI ha hb).mp q)) (fun q => kf (Nat.not_le.mp (fun z => q ((nI_leI ha hb).mpr z))))
theorem zb_if_eq (E : zz_E p R s m args c cells slots cc nL Ts own G A) {b : Bool} {off : Int} {tgt : Nat} (hdg : decode cc pc = .ok (.ifCond .eq off, 3)) (ht : (pc : Int) + off = (tgt : Int)) (kt : b = false → zz_Z p l e R s m args below meth c cells slots Q nL G A M tgt lv st) (kf : b = true → zz_Z p l e R s m args below meth c cells slots Q nL G A M (pc + 3) lv st) : zz_Z p l e R s m args below meth c cells slots Q nL G A M pc lv (.int (zz_b b) :: st) := zz_if_eq E hdg ht (fun q => kt (zz_b_eq0.mp q)) (fun q => kf (by cases b <;> simp_all [zz_b]))
theorem zb_if_ne (E : zz_E p R s m args c cells slots cc nL Ts own G A) {b : Bool} {off : Int} {tgt : Nat} (hdg : decode cc pc = .ok (.ifCond .ne off, 3)) (ht : (pc : Int) + off = (tgt : Int)) (kt : b = true → zz_Z p l e R s m args below meth c cells slots Q nL G A M tgt lv st) (kf : b = false → zz_Z p l e R s m args below meth c cells slots Q nL G A M (pc + 3) lv st) : zz_Z p l e R s m args below meth c cells slots Q nL G A M pc lv (.int (zz_b b) :: st) := zz_if_ne E hdg ht (fun q => kt (by cases b <;> simp_all [zz_b])) (fun q => kf (zz_b_eq0.mp q))
theorem zz_pfj (E : zz_E p R s m args c cells slots cc nL Ts own G A) (k j : Nat) {ci Nf index : Nat} {C ref : String} {T : u_T} {fs : List Value} {x : Int32} (hk : k < 111) (hF : zz_F G k (M k) = .inr (ci, fs)) (hc : vwCl[ci]? = some (C, T, Nf)) (hin : ∀ w ∈ u_ws C T Nf, w ∈ Ts) (ty0 : Nat → FieldType) (hty : ∀ k, k < Nf → parseFieldDescriptor (T k).2.2.1 = some (ty0 k)) (hnm : ∀ a, a < Nf → ∀ b, b < Nf → a ≠ b → (T a).2.1 ≠ (T b).2.1) (f : Nat) (hf : f < Nf) (hlink : Cond.fieldLink own index ref (T f).2.1 (T f).2.2.1 ∈ Ts) (hsame : ∀ x, s.fieldFound? (T f).1 (T f).2.1 (T f).2.2.1 = some x → s.fieldFound? ref (T f).2.1 (T f).2.2.1 = some x) (hfin : (T f).2.2.2 = false) (hd : parseFieldDescriptor (T f).2.2.1 = some .int) (hl : f < fs.length) (hg : zz_F G k (upd (M k) j x) = .inr (ci, fs.set f (.int x))) (hdg : decode cc pc = .ok (.putfield index, 3)) (kk : zz_Z p l e R s m args below meth c cells slots Q nL G A (zz_up M k (upd (M k) j x)) (pc + 3) lv st) : zz_Z p l e R s m args below meth c cells slots Q nL G A M pc lv (.int x :: .ref (G.2.2 k) :: st) := zz_pf E k (upd (M k) j x) hk hF hc hin ty0 hty hnm f hf hlink hsame hfin hd hl hg hdg kk
theorem zz_ldcw (E : zz_E p R s m args c cells slots cc nL Ts own G A) {index : Nat} {v : Int32} (hw : Cond.constant own index v ∈ Ts) (hdg : decode cc pc = .ok (.ldc_w index, 3)) (kk : zz_Z p l e R s m args below meth c cells slots Q nL G A M (pc + 3) lv (.int v :: st)) : zz_Z p l e R s m args below meth c cells slots Q nL G A M pc lv st := fun H locs ls hP hS hh => lv_ldcw E.1 E.2.1 E.2.2.2.1 (E.2.2.2.2.1 _ hw) hdg (kk H locs ls hP hS hh)
end ZN
/-! the shapes of rows and tables -/
def zz_R (k n : Nat) : Prop := zz_row k = true ∧ zz_tab k = false ∧ k + 1 < 111 ∧ n < 2 ^ 31 ∧ ∀ (G : zz_C) (f : Nat → Int32), zz_F G (k + 1) f = .inl (G.2.1 0, n, .inl f)
theorem zz_R7 : zz_R 7 33 := ⟨rfl, rfl, by decide, by decide, fun _ _ => rfl⟩
theorem zz_R9 : zz_R 9 12 := ⟨rfl, rfl, by decide, by decide, fun _ _ => rfl⟩
theorem zz_R36 : zz_R 36 2187 := ⟨rfl, rfl, by decide, by decide, fun _ _ => rfl⟩
theorem zz_R38 : zz_R 38 2187 := ⟨rfl, rfl, by decide, by decide, fun _ _ => rfl⟩
theorem zz_R24 : zz_R 24 243 := ⟨rfl, rfl, by decide, by decide, fun _ _ => rfl⟩
theorem zz_R26 : zz_R 26 243 := ⟨rfl, rfl, by decide, by decide, fun _ _ => rfl⟩
theorem zz_R28 : zz_R 28 243 := ⟨rfl, rfl, by decide, by decide, fun _ _ => rfl⟩
theorem zz_R30 : zz_R 30 243 := ⟨rfl, rfl, by decide, by decide, fun _ _ => rfl⟩
theorem zz_R32 : zz_R 32 243 := ⟨rfl, rfl, by decide, by decide, fun _ _ => rfl⟩
theorem zz_R34 : zz_R 34 243 := ⟨rfl, rfl, by decide, by decide, fun _ _ => rfl⟩
theorem zz_Rf : ∀ {i : Nat}, i < 6 → zz_R (24 + 2 * i) 243
  | 0, _ => zz_R24
  | 1, _ => zz_R26
  | 2, _ => zz_R28
  | 3, _ => zz_R30
  | 4, _ => zz_R32
  | 5, _ => zz_R34
  | n + 6, h => absurd h (by omega)
def zz_Tb (k : Nat) : Prop := zz_tab k = true ∧ k + 2 < 111 ∧ (∀ (G : zz_C) (f : Nat → Int32), zz_F G (k + 1) f = .inl (G.2.1 0, 18, .inl f)) ∧ ∀ (G : zz_C) (f : Nat → Int32), zz_F G (k + 2) f = .inl (G.2.1 0, 6, .inl f)
theorem zz_T1 : zz_Tb 1 := ⟨rfl, by decide, fun _ _ => rfl, fun _ _ => rfl⟩
theorem zz_T40 : zz_Tb 40 := ⟨rfl, by decide, fun _ _ => rfl, fun _ _ => rfl⟩
theorem zz_T43 : zz_Tb 43 := ⟨rfl, by decide, fun _ _ => rfl, fun _ _ => rfl⟩
theorem zz_T46 : zz_Tb 46 := ⟨rfl, by decide, fun _ _ => rfl, fun _ _ => rfl⟩
theorem zz_T49 : zz_Tb 49 := ⟨rfl, by decide, fun _ _ => rfl, fun _ _ => rfl⟩
theorem zz_T52 : zz_Tb 52 := ⟨rfl, by decide, fun _ _ => rfl, fun _ _ => rfl⟩
theorem zz_T55 : zz_Tb 55 := ⟨rfl, by decide, fun _ _ => rfl, fun _ _ => rfl⟩
theorem zz_T58 : zz_Tb 58 := ⟨rfl, by decide, fun _ _ => rfl, fun _ _ => rfl⟩
theorem zz_T61 : zz_Tb 61 := ⟨rfl, by decide, fun _ _ => rfl, fun _ _ => rfl⟩
theorem zz_T64 : zz_Tb 64 := ⟨rfl, by decide, fun _ _ => rfl, fun _ _ => rfl⟩
theorem zz_T67 : zz_Tb 67 := ⟨rfl, by decide, fun _ _ => rfl, fun _ _ => rfl⟩
theorem zz_T70 : zz_Tb 70 := ⟨rfl, by decide, fun _ _ => rfl, fun _ _ => rfl⟩
theorem zz_T73 : zz_Tb 73 := ⟨rfl, by decide, fun _ _ => rfl, fun _ _ => rfl⟩
theorem zz_T76 : zz_Tb 76 := ⟨rfl, by decide, fun _ _ => rfl, fun _ _ => rfl⟩
theorem zz_T79 : zz_Tb 79 := ⟨rfl, by decide, fun _ _ => rfl, fun _ _ => rfl⟩
theorem zz_T82 : zz_Tb 82 := ⟨rfl, by decide, fun _ _ => rfl, fun _ _ => rfl⟩
theorem zz_T85 : zz_Tb 85 := ⟨rfl, by decide, fun _ _ => rfl, fun _ _ => rfl⟩
theorem zz_T88 : zz_Tb 88 := ⟨rfl, by decide, fun _ _ => rfl, fun _ _ => rfl⟩
theorem zz_T91 : zz_Tb 91 := ⟨rfl, by decide, fun _ _ => rfl, fun _ _ => rfl⟩
theorem zz_T94 : zz_Tb 94 := ⟨rfl, by decide, fun _ _ => rfl, fun _ _ => rfl⟩
theorem zz_T97 : zz_Tb 97 := ⟨rfl, by decide, fun _ _ => rfl, fun _ _ => rfl⟩
theorem zz_Tk : ∀ {i : Nat}, i < 20 → zz_Tb (40 + 3 * i)
  | 0, _ => zz_T40
  | 1, _ => zz_T43
  | 2, _ => zz_T46
  | 3, _ => zz_T49
  | 4, _ => zz_T52
  | 5, _ => zz_T55
  | 6, _ => zz_T58
  | 7, _ => zz_T61
  | 8, _ => zz_T64
  | 9, _ => zz_T67
  | 10, _ => zz_T70
  | 11, _ => zz_T73
  | 12, _ => zz_T76
  | 13, _ => zz_T79
  | 14, _ => zz_T82
  | 15, _ => zz_T85
  | 16, _ => zz_T88
  | 17, _ => zz_T91
  | 18, _ => zz_T94
  | 19, _ => zz_T97
  | n + 20, h => absurd h (by omega)
end
section
/-! ints in a range -/
def zp_in (x : Int32) (n : Nat) : Bool := decide (0 ≤ x.toInt ∧ x.toInt < (n : Int))
theorem zp_in_f1 {x : Int32} {n : Nat} (h : x < 0) : zp_in x n = false := by
  rw [Int32.lt_iff_toInt_lt] at h
  have h : x.toInt < 0 := h
  unfold zp_in
  rw [decide_eq_false_iff_not]
  omega
theorem zp_in_f2 {x : Int32} {n : Nat} (h : nI n ≤ x) (hn : n < 2 ^ 31) : zp_in x n = false := by
  rw [Int32.le_iff_toInt_le, nI_toInt hn] at h
  unfold zp_in
  rw [decide_eq_false_iff_not]
  omega
theorem zp_in_t {x : Int32} {n : Nat} (h : ¬ x < 0) (h2 : ¬ nI n ≤ x) (hn : n < 2 ^ 31) : zp_in x n = true := by
  rw [Int32.lt_iff_toInt_lt] at h
  have h : ¬ x.toInt < 0 := h
  rw [Int32.le_iff_toInt_le, nI_toInt hn] at h2
  unfold zp_in
  rw [decide_eq_true_iff]
  omega
theorem zp_in_nI {a n : Nat} (ha : a < 2 ^ 31) : zp_in (nI a) n = decide (a < n) := by
  unfold zp_in
  rw [nI_toInt ha]
  simp
theorem zp_in_of {x : Int32} {n : Nat} (h : zp_in x n = true) (hn : n < 2 ^ 31) : ∃ a, a < n ∧ x = nI a := by
  unfold zp_in at h
  rw [decide_eq_true_iff] at h
  have hx : ¬ x < 0 := by
    rw [Int32.lt_iff_toInt_lt]
    show ¬ x.toInt < 0
    omega
  obtain ⟨j, hj, rfl⟩ := nI_of hx
  rw [nI_toInt hj] at h
  exact ⟨j, by omega, rfl⟩
def zp_w (x a b : Int32) : Bool := decide (a.toInt ≤ x.toInt ∧ x.toInt ≤ b.toInt)
theorem zp_w_f1 {x a b : Int32} (h : x < a) : zp_w x a b = false := by
  rw [Int32.lt_iff_toInt_lt] at h
  unfold zp_w
  rw [decide_eq_false_iff_not]
  omega
theorem zp_w_f2 {x a b : Int32} (h : b < x) : zp_w x a b = false := by
  rw [Int32.lt_iff_toInt_lt] at h
  unfold zp_w
  rw [decide_eq_false_iff_not]
  omega
theorem zp_w_t {x a b : Int32} (h : ¬ x < a) (h2 : ¬ b < x) : zp_w x a b = true := by
  rw [Int32.lt_iff_toInt_lt] at h h2
  unfold zp_w
  rw [decide_eq_true_iff]
  omega
theorem zp_w_nI {x a b : Nat} (hx : x < 2 ^ 31) (ha : a < 2 ^ 31) (hb : b < 2 ^ 31) : zp_w (nI x) (nI a) (nI b) = decide (a ≤ x ∧ x ≤ b) := by
  unfold zp_w
  rw [nI_toInt hx, nI_toInt ha, nI_toInt hb]
  apply decide_eq_decide.mpr
  omega
theorem zp_w_0 {x : Int32} {n : Nat} (hn : n + 1 < 2 ^ 31) : zp_w x (nI 0) (nI n) = zp_in x (n + 1) := by
  unfold zp_w zp_in
  rw [nI_toInt (by omega), nI_toInt (by omega)]
  apply decide_eq_decide.mpr
  omega
theorem zp_w_m9 {a b : Nat} (ha : a < 2 ^ 31) : zp_w (-9) (nI a) (nI b) = false := by
  unfold zp_w
  rw [decide_eq_false_iff_not, nI_toInt ha, show (-9 : Int32).toInt = -9 by decide]
  omega
theorem zl_cases (x : Int64) : (∃ n, n < 2 ^ 63 ∧ x = lN n) ∨ x < lN 0 := by
  by_cases h : x < lN 0
  · exact Or.inr h
  · left
    rw [Int64.lt_iff_toInt_lt, zl_toInt (by omega)] at h
    have h1 := Int64.toInt_lt x
    refine ⟨x.toInt.toNat, by omega, ?_⟩
    apply Int64.toInt_inj.mp
    rw [zl_toInt (by omega)]
    omega
/-! digits of a number, the lowest first -/
def zdf : Nat → Nat → List Nat
  | 0, _ => []
  | f + 1, n => if n = 0 then [] else n % 10 :: zdf f (n / 10)
def zd (n : Nat) : List Nat := zdf 20 n
theorem zdf_more : ∀ (f n : Nat), n < 10 ^ f → zdf (f + 1) n = zdf f n
  | 0, n, h => by
    have : n = 0 := by simpa using h
    subst this
    rfl
  | f + 1, n, h => by
    show (if n = 0 then [] else n % 10 :: zdf (f + 1) (n / 10)) = (if n = 0 then [] else n % 10 :: zdf f (n / 10))
    by_cases h0 : n = 0
    · rw [if_pos h0, if_pos h0]
    · rw [if_neg h0, if_neg h0, zdf_more f (n / 10) (by rw [Nat.pow_succ] at h; omega)]
theorem zd_0 : zd 0 = [] := rfl
theorem zd_pos {n : Nat} (h : 0 < n) (hn : n < 2 ^ 63) : zd n = n % 10 :: zd (n / 10) := by
  show zdf 20 n = n % 10 :: zdf 20 (n / 10)
  rw [zdf, if_neg (by omega), zdf_more 19 (n / 10) (by have : (2 : Nat) ^ 63 < 10 ^ 20 := by decide
                                                       have : (10 : Nat) ^ 20 = 10 ^ 19 * 10 := by decide
                                                       omega)]
/-- digits 1 to kinds, at most so many -/
def zok (n kinds most : Nat) : Bool := (zd n).all (fun d => decide (1 ≤ d ∧ d ≤ kinds)) && decide ((zd n).length ≤ most)
theorem zok_0 (kinds most : Nat) : zok 0 kinds most = true := by simp [zok, zd_0]
theorem zok_pos0 {n kinds : Nat} (h : 0 < n) (hn : n < 2 ^ 63) : zok n kinds 0 = false := by
  unfold zok
  rw [zd_pos h hn]
  simp
theorem zok_step {n kinds most : Nat} (h : 0 < n) (hn : n < 2 ^ 63) : zok n kinds (most + 1) = (decide (1 ≤ n % 10 ∧ n % 10 ≤ kinds) && zok (n / 10) kinds most) := by
  unfold zok
  rw [zd_pos h hn]
  simp [Bool.and_assoc]
/-- a long is a row -/
def zs_row (x : Int64) (kinds most : Nat) : Bool := decide (lN 0 ≤ x) && zok x.toInt.toNat kinds most
theorem zs_row_lN {n kinds most : Nat} (hn : n < 2 ^ 63) : zs_row (lN n) kinds most = zok n kinds most := by
  unfold zs_row
  rw [zl_toInt hn, decide_eq_true ((zl_le (by omega) hn).mpr (Nat.zero_le _))]
  simp
theorem zs_row_neg {x : Int64} {kinds most : Nat} (h : x < lN 0) : zs_row x kinds most = false := by
  unfold zs_row
  rw [decide_eq_false (Int64.not_le.mpr h)]
  rfl

set_option maxHeartbeats 4000000 in
set_option maxRecDepth 100000 in
theorem kkX7_isSign (l : Launch) (G : zz_C) (hJ : zz_J G) (M : zz_M) (x0 : Int32) : Met l yX7_isSign wsX7_isSign ({ frames := 0, cells := 0, slots := 0, locals := 0 } : Room) (zz_P G M [.int x0]) (zz_Qi G (fun r M1 => M1 = M ∧ r = zz_b (zp_in x0 6))) 0 0 (zz_A G) := by
  refine zz_start hJ (by decide) rfl (Nat.le_of_ble_eq_true rfl) ?_
  intro p e s m below meth c E hr hlk
  have hts := E.2.2.2.2.1
  show zz_Z p l e (headSpec wsX7_isSign ({ frames := 0, cells := 0, slots := 0, locals := 0 } : Room)).room s m ([.int x0] : List Value).toArray below meth c 0 0 (MQ below (zz_Qi G (fun r M1 => M1 = M ∧ r = zz_b (zp_in x0 6))) ([.int x0] : List Value).toArray s 0 0 (zz_A G)) 1 G (zz_A G) M 0 [(0, .int x0)] []
  refine zz_iload_n (pc := 0) E dX7_isSign_0 rfl ?_
  refine zz_if_lt (pc := 1) (tgt := 14) E dX7_isSign_1 (by decide) (fun h1 => ?_) (fun h1 => ?_)
  · refine zz_iconst (pc := 14) (v := nI 0) E dX7_isSign_14 (by decide) ?_
    exact zz_zret (pc := 15) E hr hlk dX7_isSign_15 (by decide) ⟨rfl, by first | (rw [zp_in_f1 h1]; rfl) | (rw [zp_in_t h1 ‹_› (by decide)]; rfl) | (rw [zp_in_f2 ‹_› (by decide)]; rfl)⟩
  · refine zz_iload_n (pc := 4) E dX7_isSign_4 rfl ?_
    refine zz_bipush (pc := 5) (v := nI 6) E dX7_isSign_5 (by decide) ?_
    refine zz_icmp_ge (pc := 7) (tgt := 14) E dX7_isSign_7 (by decide) (fun h7 => ?_) (fun h7 => ?_)
    · refine zz_iconst (pc := 14) (v := nI 0) E dX7_isSign_14 (by decide) ?_
      exact zz_zret (pc := 15) E hr hlk dX7_isSign_15 (by decide) ⟨rfl, by first | (rw [zp_in_f1 h1]; rfl) | (rw [zp_in_t h1 ‹_› (by decide)]; rfl) | (rw [zp_in_f2 ‹_› (by decide)]; rfl)⟩
    · refine zz_iconst (pc := 10) (v := nI 1) E dX7_isSign_10 (by decide) ?_
      refine zz_goto (pc := 11) (tgt := 15) E dX7_isSign_11 (by decide) ?_
      exact zz_zret (pc := 15) E hr hlk dX7_isSign_15 (by decide) ⟨rfl, by first | (rw [zp_in_f1 h1]; rfl) | (rw [zp_in_t h1 ‹_› (by decide)]; rfl) | (rw [zp_in_f2 ‹_› (by decide)]; rfl)⟩

set_option maxHeartbeats 4000000 in
set_option maxRecDepth 100000 in
theorem kkX7_isLetter (l : Launch) (G : zz_C) (hJ : zz_J G) (M : zz_M) (x0 : Int32) : Met l yX7_isLetter wsX7_isLetter ({ frames := 0, cells := 0, slots := 0, locals := 0 } : Room) (zz_P G M [.int x0]) (zz_Qi G (fun r M1 => M1 = M ∧ r = zz_b (zp_in x0 3))) 0 0 (zz_A G) := by
  refine zz_start hJ (by decide) rfl (Nat.le_of_ble_eq_true rfl) ?_
  intro p e s m below meth c E hr hlk
  have hts := E.2.2.2.2.1
  show zz_Z p l e (headSpec wsX7_isLetter ({ frames := 0, cells := 0, slots := 0, locals := 0 } : Room)).room s m ([.int x0] : List Value).toArray below meth c 0 0 (MQ below (zz_Qi G (fun r M1 => M1 = M ∧ r = zz_b (zp_in x0 3))) ([.int x0] : List Value).toArray s 0 0 (zz_A G)) 1 G (zz_A G) M 0 [(0, .int x0)] []
  refine zz_iload_n (pc := 0) E dX7_isLetter_0 rfl ?_
  refine zz_if_lt (pc := 1) (tgt := 13) E dX7_isLetter_1 (by decide) (fun h1 => ?_) (fun h1 => ?_)
  · refine zz_iconst (pc := 13) (v := nI 0) E dX7_isLetter_13 (by decide) ?_
    exact zz_zret (pc := 14) E hr hlk dX7_isLetter_14 (by decide) ⟨rfl, by first | (rw [zp_in_f1 h1]; rfl) | (rw [zp_in_t h1 ‹_› (by decide)]; rfl) | (rw [zp_in_f2 ‹_› (by decide)]; rfl)⟩
  · refine zz_iload_n (pc := 4) E dX7_isLetter_4 rfl ?_
    refine zz_iconst (pc := 5) (v := nI 3) E dX7_isLetter_5 (by decide) ?_
    refine zz_icmp_ge (pc := 6) (tgt := 13) E dX7_isLetter_6 (by decide) (fun h6 => ?_) (fun h6 => ?_)
    · refine zz_iconst (pc := 13) (v := nI 0) E dX7_isLetter_13 (by decide) ?_
      exact zz_zret (pc := 14) E hr hlk dX7_isLetter_14 (by decide) ⟨rfl, by first | (rw [zp_in_f1 h1]; rfl) | (rw [zp_in_t h1 ‹_› (by decide)]; rfl) | (rw [zp_in_f2 ‹_› (by decide)]; rfl)⟩
    · refine zz_iconst (pc := 9) (v := nI 1) E dX7_isLetter_9 (by decide) ?_
      refine zz_goto (pc := 10) (tgt := 14) E dX7_isLetter_10 (by decide) ?_
      exact zz_zret (pc := 14) E hr hlk dX7_isLetter_14 (by decide) ⟨rfl, by first | (rw [zp_in_f1 h1]; rfl) | (rw [zp_in_t h1 ‹_› (by decide)]; rfl) | (rw [zp_in_f2 ‹_› (by decide)]; rfl)⟩

set_option maxHeartbeats 4000000 in
set_option maxRecDepth 100000 in
theorem kkX8_within (l : Launch) (G : zz_C) (hJ : zz_J G) (M : zz_M) (x0 x1 x2 : Int32) : Met l yX8_within wsX8_within ({ frames := 0, cells := 0, slots := 0, locals := 0 } : Room) (zz_P G M [.int x0, .int x1, .int x2]) (zz_Qi G (fun r M1 => M1 = M ∧ r = zz_b (zp_w x0 x1 x2))) 0 0 (zz_A G) := by
  refine zz_start hJ (by decide) rfl (Nat.le_of_ble_eq_true rfl) ?_
  intro p e s m below meth c E hr hlk
  have hts := E.2.2.2.2.1
  show zz_Z p l e (headSpec wsX8_within ({ frames := 0, cells := 0, slots := 0, locals := 0 } : Room)).room s m ([.int x0, .int x1, .int x2] : List Value).toArray below meth c 0 0 (MQ below (zz_Qi G (fun r M1 => M1 = M ∧ r = zz_b (zp_w x0 x1 x2))) ([.int x0, .int x1, .int x2] : List Value).toArray s 0 0 (zz_A G)) 3 G (zz_A G) M 0 [(0, .int x0), (1, .int x1), (2, .int x2)] []
  refine zz_iload_n (pc := 0) E dX8_within_0 rfl ?_
  refine zz_iload_n (pc := 1) E dX8_within_1 rfl ?_
  refine zz_icmp_lt (pc := 2) (tgt := 14) E dX8_within_2 (by decide) (fun h2 => ?_) (fun h2 => ?_)
  · refine zz_iconst (pc := 14) (v := nI 0) E dX8_within_14 (by decide) ?_
    exact zz_zret (pc := 15) E hr hlk dX8_within_15 (by decide) ⟨rfl, by first | (rw [zp_w_f1 h2]; rfl) | (rw [zp_w_f2 h7]; rfl) | (rw [zp_w_t h2 h7]; rfl)⟩
  · refine zz_iload_n (pc := 5) E dX8_within_5 rfl ?_
    refine zz_iload_n (pc := 6) E dX8_within_6 rfl ?_
    refine zz_icmp_gt (pc := 7) (tgt := 14) E dX8_within_7 (by decide) (fun h7 => ?_) (fun h7 => ?_)
    · refine zz_iconst (pc := 14) (v := nI 0) E dX8_within_14 (by decide) ?_
      exact zz_zret (pc := 15) E hr hlk dX8_within_15 (by decide) ⟨rfl, by first | (rw [zp_w_f1 h2]; rfl) | (rw [zp_w_f2 h7]; rfl) | (rw [zp_w_t h2 h7]; rfl)⟩
    · refine zz_iconst (pc := 10) (v := nI 1) E dX8_within_10 (by decide) ?_
      refine zz_goto (pc := 11) (tgt := 15) E dX8_within_11 (by decide) ?_
      exact zz_zret (pc := 15) E hr hlk dX8_within_15 (by decide) ⟨rfl, by first | (rw [zp_w_f1 h2]; rfl) | (rw [zp_w_f2 h7]; rfl) | (rw [zp_w_t h2 h7]; rfl)⟩

set_option maxHeartbeats 4000000 in
set_option maxRecDepth 100000 in
theorem kkX8_isSign (l : Launch) (G : zz_C) (hJ : zz_J G) (M : zz_M) (x0 : Int32) : Met l yX8_isSign wsX8_isSign ({ frames := 1, cells := 0, slots := 0, locals := 22 } : Room) (zz_P G M [.int x0]) (zz_Qi G (fun r M1 => M1 = M ∧ r = zz_b (zp_in x0 6))) 0 0 (zz_A G) := by
  refine zz_start hJ (by decide) rfl (Nat.le_of_ble_eq_true rfl) ?_
  intro p e s m below meth c E hr hlk
  have hts := E.2.2.2.2.1
  show zz_Z p l e (headSpec wsX8_isSign ({ frames := 1, cells := 0, slots := 0, locals := 22 } : Room)).room s m ([.int x0] : List Value).toArray below meth c 0 0 (MQ below (zz_Qi G (fun r M1 => M1 = M ∧ r = zz_b (zp_in x0 6))) ([.int x0] : List Value).toArray s 0 0 (zz_A G)) 1 G (zz_A G) M 0 [(0, .int x0)] []
  refine zz_iload_n (pc := 0) E dX8_isSign_0 rfl ?_
  refine zz_iconst (pc := 1) (v := nI 0) E dX8_isSign_1 (by decide) ?_
  refine zz_iconst (pc := 2) (v := nI 5) E dX8_isSign_2 (by decide) ?_
  refine zz_ciS (pc := 3) E (kkX8_within l G hJ _ _ _ _ ) (va_cwS 3 hts gX8_isSign_X8_within rfl rfl rfl (by decide +kernel) ⟨Nat.le_of_ble_eq_true rfl, Nat.le_of_ble_eq_true rfl⟩) rfl rfl (Nat.le_of_ble_eq_true rfl) dX8_isSign_3 (fun r3 M3 q3 => ?_)
  obtain ⟨rfl, rfl⟩ := q3
  exact zz_zret (pc := 6) E hr hlk dX8_isSign_6 (zz_b01 _) ⟨rfl, by rw [zp_w_0 (by decide)]⟩

set_option maxHeartbeats 4000000 in
set_option maxRecDepth 100000 in
theorem kkX8_isLetter (l : Launch) (G : zz_C) (hJ : zz_J G) (M : zz_M) (x0 : Int32) : Met l yX8_isLetter wsX8_isLetter ({ frames := 1, cells := 0, slots := 0, locals := 22 } : Room) (zz_P G M [.int x0]) (zz_Qi G (fun r M1 => M1 = M ∧ r = zz_b (zp_in x0 3))) 0 0 (zz_A G) := by
  refine zz_start hJ (by decide) rfl (Nat.le_of_ble_eq_true rfl) ?_
  intro p e s m below meth c E hr hlk
  have hts := E.2.2.2.2.1
  show zz_Z p l e (headSpec wsX8_isLetter ({ frames := 1, cells := 0, slots := 0, locals := 22 } : Room)).room s m ([.int x0] : List Value).toArray below meth c 0 0 (MQ below (zz_Qi G (fun r M1 => M1 = M ∧ r = zz_b (zp_in x0 3))) ([.int x0] : List Value).toArray s 0 0 (zz_A G)) 1 G (zz_A G) M 0 [(0, .int x0)] []
  refine zz_iload_n (pc := 0) E dX8_isLetter_0 rfl ?_
  refine zz_iconst (pc := 1) (v := nI 0) E dX8_isLetter_1 (by decide) ?_
  refine zz_iconst (pc := 2) (v := nI 2) E dX8_isLetter_2 (by decide) ?_
  refine zz_ciS (pc := 3) E (kkX8_within l G hJ _ _ _ _ ) (va_cwS 3 hts gX8_isLetter_X8_within rfl rfl rfl (by decide +kernel) ⟨Nat.le_of_ble_eq_true rfl, Nat.le_of_ble_eq_true rfl⟩) rfl rfl (Nat.le_of_ble_eq_true rfl) dX8_isLetter_3 (fun r3 M3 q3 => ?_)
  obtain ⟨rfl, rfl⟩ := q3
  exact zz_zret (pc := 6) E hr hlk dX8_isLetter_6 (zz_b01 _) ⟨rfl, by rw [zp_w_0 (by decide)]⟩

theorem clX7_isRow_203 : Cond.constantLong RX7 203 (10) ∈ wsX7_isRow := by decide +kernel
set_option maxHeartbeats 4000000 in
set_option maxRecDepth 100000 in
theorem kkX7_isRow (l : Launch) (G : zz_C) (hJ : zz_J G) (M : zz_M) (x : Int64) (kn mo : Nat) (hkn : kn < 2 ^ 31) (hmo : mo < 2 ^ 31) : Met l yX7_isRow wsX7_isRow ({ frames := 0, cells := 0, slots := 0, locals := 0 } : Room) (zz_P G M [.long x, .int (nI kn), .int (nI mo)]) (zz_Qi G (fun r M1 => M1 = M ∧ r = zz_b (zs_row x kn mo))) 0 0 (zz_A G) := by
  refine zz_start hJ (by decide) rfl (Nat.le_of_ble_eq_true rfl) ?_
  intro p e s m below meth c E hr hlk
  have hts := E.2.2.2.2.1
  show zz_Z p l e (headSpec wsX7_isRow ({ frames := 0, cells := 0, slots := 0, locals := 0 } : Room)).room s m ([.long x, .int (nI kn), .int (nI mo)] : List Value).toArray below meth c 0 0 (MQ below (zz_Qi G (fun r M1 => M1 = M ∧ r = zz_b (zs_row x kn mo))) ([.long x, .int (nI kn), .int (nI mo)] : List Value).toArray s 0 0 (zz_A G)) 9 G (zz_A G) M 0 [(0, .long x), (2, .int (nI kn)), (3, .int (nI mo))] []
  rcases zl_cases x with ⟨n, hn, hx⟩ | hx
  · have hxr : zs_row x kn mo = zok n kn mo := by rw [hx, zs_row_lN hn]
    refine zz_lload_n (pc := 0) E dX7_isRow_0 rfl ?_
    refine zz_eql (y := lN n) hx ?_
    refine zz_lstore (pc := 1) (lv' := [(0, _), (2, _), (3, _), (4, _)]) E dX7_isRow_1 (by decide) rfl ?_
    refine zz_iconst (pc := 3) (v := nI 0) E dX7_isRow_3 (by decide) ?_
    refine zz_istore (pc := 4) (lv' := [(0, _), (2, _), (3, _), (4, _), (6, _)]) E dX7_isRow_4 (by decide) rfl ?_
    have key : ∀ (j i a : Nat), i + j = mo → a < 2 ^ 63 → zok n kn mo = zok a kn j → zz_Z p l e (headSpec wsX7_isRow ({ frames := 0, cells := 0, slots := 0, locals := 0 } : Room)).room s m ([.long x, .int (nI kn), .int (nI mo)] : List Value).toArray below meth c 0 0 (MQ below (zz_Qi G (fun r M1 => M1 = M ∧ r = zz_b (zs_row x kn mo))) ([.long x, .int (nI kn), .int (nI mo)] : List Value).toArray s 0 0 (zz_A G)) 9 G (zz_A G) M 6 [(2, .int (nI kn)), (3, .int (nI mo)), (4, .long (lN a)), (6, .int (nI i))] [] := by
      intro j
      induction j with
      | zero =>
        intro i a hi ha hz
        refine zz_iload (pc := 6) E dX7_isRow_6 rfl ?_
        refine zz_iload_n (pc := 8) E dX7_isRow_8 rfl ?_
        refine zn_icmp_ge (pc := 9) (tgt := 58) E dX7_isRow_9 (by decide) (by omega) (by omega) (fun h9 => ?_) (fun h9 => ?_)
        · refine zz_lload (pc := 58) E dX7_isRow_58 rfl ?_
          refine zz_lconst (pc := 60) (v := lN 0) E dX7_isRow_60 rfl ?_
          refine zn_lcmp_ne (pc := 61) (tgt := 69) E dX7_isRow_61 dX7_isRow_62 (by decide) (by omega) (by omega) (fun h62 => ?_) (fun h62 => ?_)
          · refine zz_iconst (pc := 69) (v := nI 0) E dX7_isRow_69 (by decide) ?_
            exact zz_zret (pc := 70) E hr hlk dX7_isRow_70 (by decide) ⟨rfl, by first | (rw [hxr, hz, h62, zok_0]; rfl) | (rw [hxr, hz, zok_pos0 (by omega) ha]; rfl)⟩
          · refine zz_iconst (pc := 65) (v := nI 1) E dX7_isRow_65 (by decide) ?_
            refine zz_goto (pc := 66) (tgt := 70) E dX7_isRow_66 (by decide) ?_
            exact zz_zret (pc := 70) E hr hlk dX7_isRow_70 (by decide) ⟨rfl, by first | (rw [hxr, hz, h62, zok_0]; rfl) | (rw [hxr, hz, zok_pos0 (by omega) ha]; rfl)⟩
        · exact absurd h9 (by omega)
      | succ j ih =>
        intro i a hi ha hz
        refine zz_iload (pc := 6) E dX7_isRow_6 rfl ?_
        refine zz_iload_n (pc := 8) E dX7_isRow_8 rfl ?_
        refine zn_icmp_ge (pc := 9) (tgt := 58) E dX7_isRow_9 (by decide) (by omega) (by omega) (fun h9 => ?_) (fun h9 => ?_)
        · exact absurd h9 (by omega)
        · refine zz_lload (pc := 12) E dX7_isRow_12 rfl ?_
          refine zz_lconst (pc := 14) (v := lN 0) E dX7_isRow_14 rfl ?_
          refine zn_lcmp_le (pc := 15) (tgt := 58) E dX7_isRow_15 dX7_isRow_16 (by decide) (by omega) (by omega) (fun h16 => ?_) (fun h16 => ?_)
          · refine zz_lload (pc := 58) E dX7_isRow_58 rfl ?_
            refine zz_lconst (pc := 60) (v := lN 0) E dX7_isRow_60 rfl ?_
            refine zn_lcmp_ne (pc := 61) (tgt := 69) E dX7_isRow_61 dX7_isRow_62 (by decide) (by omega) (by omega) (fun h62 => ?_) (fun h62 => ?_)
            · exact absurd h62 (by omega)
            · refine zz_iconst (pc := 65) (v := nI 1) E dX7_isRow_65 (by decide) ?_
              refine zz_goto (pc := 66) (tgt := 70) E dX7_isRow_66 (by decide) ?_
              exact zz_zret (pc := 70) E hr hlk dX7_isRow_70 (by decide) ⟨rfl, by rw [hxr, hz, h62, zok_0]; rfl⟩
          · refine zz_lload (pc := 19) E dX7_isRow_19 rfl ?_
            refine zz_ldc2 (pc := 21) (v := lN 10) E clX7_isRow_203 dX7_isRow_21 ?_
            refine zn_lrem (pc := 24) E dX7_isRow_24 (by omega) (by omega) (by omega) ?_
            refine zz_lstore (pc := 25) (lv' := [(2, _), (3, _), (4, _), (6, _), (7, _)]) E dX7_isRow_25 (by decide) rfl ?_
            refine zz_lload (pc := 27) E dX7_isRow_27 rfl ?_
            refine zz_lconst (pc := 29) (v := lN 1) E dX7_isRow_29 rfl ?_
            refine zn_lcmp_lt (pc := 30) (tgt := 42) E dX7_isRow_30 dX7_isRow_31 (by decide) (by omega) (by omega) (fun h31 => ?_) (fun h31 => ?_)
            · refine zz_iconst (pc := 42) (v := nI 0) E dX7_isRow_42 (by decide) ?_
              exact zz_zret (pc := 43) E hr hlk dX7_isRow_43 (by decide) ⟨rfl, by rw [hxr, hz, zok_step (by omega) ha, decide_eq_false (by omega)]; rfl⟩
            · refine zz_lload (pc := 34) E dX7_isRow_34 rfl ?_
              refine zz_iload_n (pc := 36) E dX7_isRow_36 rfl ?_
              refine zn_i2l (pc := 37) E dX7_isRow_37 (by omega) ?_
              refine zn_lcmp_le (pc := 38) (tgt := 44) E dX7_isRow_38 dX7_isRow_39 (by decide) (by omega) (by omega) (fun h39 => ?_) (fun h39 => ?_)
              · refine zz_lload (pc := 44) E dX7_isRow_44 rfl ?_
                refine zz_ldc2 (pc := 46) (v := lN 10) E clX7_isRow_203 dX7_isRow_46 ?_
                refine zn_ldiv (pc := 49) E dX7_isRow_49 (by omega) (by omega) (by omega) ?_
                refine zz_lstore (pc := 50) (lv' := [(2, _), (3, _), (4, _), (6, _), (7, _)]) E dX7_isRow_50 (by decide) rfl ?_
                refine zn_inc (pc := 52) (lv' := [(2, _), (3, _), (4, _), (6, _), (7, _)]) E dX7_isRow_52 rfl (by decide) rfl ?_
                refine zz_goto (pc := 55) (tgt := 6) E dX7_isRow_55 (by decide) ?_
                exact zz_to (ih (i + 1) (a / 10) (by omega) (by omega) (by rw [hz, zok_step (by omega) ha, decide_eq_true (by omega)]; rfl)) ⟨rfl, rfl, rfl, rfl, trivial⟩
              · refine zz_iconst (pc := 42) (v := nI 0) E dX7_isRow_42 (by decide) ?_
                exact zz_zret (pc := 43) E hr hlk dX7_isRow_43 (by decide) ⟨rfl, by rw [hxr, hz, zok_step (by omega) ha, decide_eq_false (by omega)]; rfl⟩
    exact zz_to (key mo 0 n (by omega) hn rfl) ⟨rfl, rfl, rfl, rfl, trivial⟩
  · refine zz_lload_n (pc := 0) E dX7_isRow_0 rfl ?_
    refine zz_lstore (pc := 1) (lv' := [(0, _), (2, _), (3, _), (4, _)]) E dX7_isRow_1 (by decide) rfl ?_
    refine zz_iconst (pc := 3) (v := nI 0) E dX7_isRow_3 (by decide) ?_
    refine zz_istore (pc := 4) (lv' := [(0, _), (2, _), (3, _), (4, _), (6, _)]) E dX7_isRow_4 (by decide) rfl ?_
    refine zz_iload (pc := 6) E dX7_isRow_6 rfl ?_
    refine zz_iload_n (pc := 8) E dX7_isRow_8 rfl ?_
    refine zn_icmp_ge (pc := 9) (tgt := 58) E dX7_isRow_9 (by decide) (by omega) (by omega) (fun h9 => ?_) (fun h9 => ?_)
    · refine zz_lload (pc := 58) E dX7_isRow_58 rfl ?_
      refine zz_lconst (pc := 60) (v := lN 0) E dX7_isRow_60 rfl ?_
      refine zz_lcmp (pc := 61) E dX7_isRow_61 ?_
      refine zz_if_ne (pc := 62) (tgt := 69) E dX7_isRow_62 (by decide) (fun h62 => ?_) (fun h62 => ?_)
      · refine zz_iconst (pc := 69) (v := nI 0) E dX7_isRow_69 (by decide) ?_
        exact zz_zret (pc := 70) E hr hlk dX7_isRow_70 (by decide) ⟨rfl, by rw [zs_row_neg hx]; rfl⟩
      · rw [lg_cmp_eq] at h62
        rw [h62] at hx
        exact absurd hx (by decide)
    · refine zz_lload (pc := 12) E dX7_isRow_12 rfl ?_
      refine zz_lconst (pc := 14) (v := lN 0) E dX7_isRow_14 rfl ?_
      refine zz_lcmp (pc := 15) E dX7_isRow_15 ?_
      refine zz_if_le (pc := 16) (tgt := 58) E dX7_isRow_16 (by decide) (fun h16 => ?_) (fun h16 => ?_)
      · refine zz_lload (pc := 58) E dX7_isRow_58 rfl ?_
        refine zz_lconst (pc := 60) (v := lN 0) E dX7_isRow_60 rfl ?_
        refine zz_lcmp (pc := 61) E dX7_isRow_61 ?_
        refine zz_if_ne (pc := 62) (tgt := 69) E dX7_isRow_62 (by decide) (fun h62 => ?_) (fun h62 => ?_)
        · refine zz_iconst (pc := 69) (v := nI 0) E dX7_isRow_69 (by decide) ?_
          exact zz_zret (pc := 70) E hr hlk dX7_isRow_70 (by decide) ⟨rfl, by rw [zs_row_neg hx]; rfl⟩
        · rw [lg_cmp_eq] at h62
          rw [h62] at hx
          exact absurd hx (by decide)
      · exact absurd hx (Int64.not_lt.mpr (Int64.le_of_lt ((lg_cmp_gt x (lN 0)).mp (Int32.not_le.mp h16))))

set_option maxHeartbeats 4000000 in
set_option maxRecDepth 100000 in
theorem kkX7_isRowOfSigns (l : Launch) (G : zz_C) (hJ : zz_J G) (M : zz_M) (x : Int32) : Met l yX7_isRowOfSigns wsX7_isRowOfSigns ({ frames := 1, cells := 0, slots := 0, locals := 28 } : Room) (zz_P G M [.int x]) (zz_Qi G (fun r M1 => M1 = M ∧ r = zz_b (zs_row x.toInt64 6 9))) 0 0 (zz_A G) := by
  refine zz_start hJ (by decide) rfl (Nat.le_of_ble_eq_true rfl) ?_
  intro p e s m below meth c E hr hlk
  have hts := E.2.2.2.2.1
  show zz_Z p l e (headSpec wsX7_isRowOfSigns ({ frames := 1, cells := 0, slots := 0, locals := 28 } : Room)).room s m ([.int x] : List Value).toArray below meth c 0 0 (MQ below (zz_Qi G (fun r M1 => M1 = M ∧ r = zz_b (zs_row x.toInt64 6 9))) ([.int x] : List Value).toArray s 0 0 (zz_A G)) 1 G (zz_A G) M 0 [(0, .int x)] []
  refine zz_iload_n (pc := 0) E dX7_isRowOfSigns_0 rfl ?_
  refine zz_i2l (pc := 1) E dX7_isRowOfSigns_1 rfl ?_
  refine zz_bipush (pc := 2) (v := nI 6) E dX7_isRowOfSigns_2 (by decide) ?_
  refine zz_bipush (pc := 4) (v := nI 9) E dX7_isRowOfSigns_4 (by decide) ?_
  refine zz_ciS (pc := 6) E (kkX7_isRow l G hJ _ _ _ _ (by omega) (by omega)) (va_cwS 3 hts gX7_isRowOfSigns_X7_isRow rfl rfl rfl (by decide +kernel) ⟨Nat.le_of_ble_eq_true rfl, Nat.le_of_ble_eq_true rfl⟩) rfl rfl (Nat.le_of_ble_eq_true rfl) dX7_isRowOfSigns_6 (fun r6 M6 q6 => ?_)
  obtain ⟨rfl, rfl⟩ := q6
  exact zz_zret (pc := 9) E hr hlk dX7_isRowOfSigns_9 (zz_b01 _) ⟨rfl, rfl⟩

/-- how many digits a long has, each 1 to kinds; -9 where another is among them, or it is below 0 -/
def zs_dg (x : Int64) (kinds : Nat) : Option Nat := if zs_row x kinds 20 = true then some (zd x.toInt.toNat).length else none
/-- a number or -9 -/
def zo (o : Option Nat) : Int32 := match o with
  | none => -9
  | some a => nI a
theorem zs_dg_neg {x : Int64} {kinds : Nat} (h : x < lN 0) : zs_dg x kinds = none := by
  unfold zs_dg
  rw [zs_row_neg h]
  rfl
theorem zdf_len : ∀ (f n : Nat), (zdf f n).length ≤ f
  | 0, _ => Nat.zero_le _
  | f + 1, n => by
    rw [zdf]
    by_cases h0 : n = 0
    · rw [if_pos h0]; exact Nat.zero_le _
    · rw [if_neg h0, List.length_cons]
      have := zdf_len f (n / 10)
      omega
theorem zd_len (n : Nat) : (zd n).length ≤ 20 := zdf_len 20 n
theorem zok_20 {n kinds : Nat} : zok n kinds 20 = (zd n).all (fun d => decide (1 ≤ d ∧ d ≤ kinds)) := by
  unfold zok
  rw [decide_eq_true (zd_len n), Bool.and_true]
theorem zs_dg_lN {n kinds : Nat} (hn : n < 2 ^ 63) : zs_dg (lN n) kinds = if (zd n).all (fun d => decide (1 ≤ d ∧ d ≤ kinds)) = true then some (zd n).length else none := by
  unfold zs_dg
  rw [zs_row_lN hn, zok_20, zl_toInt hn]
  rfl

theorem clX8_digits_44 : Cond.constantLong RX8 44 (10) ∈ wsX8_digits := by decide +kernel
set_option maxHeartbeats 4000000 in
set_option maxRecDepth 100000 in
theorem kkX8_digits (l : Launch) (G : zz_C) (hJ : zz_J G) (M : zz_M) (x : Int64) (kn : Nat) (hkn : kn < 2 ^ 31) : Met l yX8_digits wsX8_digits ({ frames := 1, cells := 0, slots := 0, locals := 22 } : Room) (zz_P G M [.long x, .int (nI kn)]) (zz_Qi G (fun r M1 => M1 = M ∧ r = zo (zs_dg x kn))) 0 0 (zz_A G) := by
  refine zz_start hJ (by decide) rfl (Nat.le_of_ble_eq_true rfl) ?_
  intro p e s m below meth c E hr hlk
  have hts := E.2.2.2.2.1
  show zz_Z p l e (headSpec wsX8_digits ({ frames := 1, cells := 0, slots := 0, locals := 22 } : Room)).room s m ([.long x, .int (nI kn)] : List Value).toArray below meth c 0 0 (MQ below (zz_Qi G (fun r M1 => M1 = M ∧ r = zo (zs_dg x kn))) ([.long x, .int (nI kn)] : List Value).toArray s 0 0 (zz_A G)) 6 G (zz_A G) M 0 [(0, .long x), (2, .int (nI kn))] []
  rcases zl_cases x with ⟨n, hn, hx⟩ | hx
  · have hxr : zs_dg x kn = if (zd n).all (fun d => decide (1 ≤ d ∧ d ≤ kn)) = true then some (zd n).length else none := by rw [hx, zs_dg_lN hn]
    refine zz_iconst (pc := 0) (v := nI 0) E dX8_digits_0 (by decide) ?_
    refine zz_istore_n (pc := 1) (lv' := [(0, _), (2, _), (3, _)]) E dX8_digits_1 (by decide) rfl ?_
    refine zz_lload_n (pc := 2) E dX8_digits_2 rfl ?_
    refine zz_eql (y := lN n) hx ?_
    refine zz_lstore (pc := 3) (lv' := [(0, _), (2, _), (3, _), (4, _)]) E dX8_digits_3 (by decide) rfl ?_
    have key : ∀ (j i a : Nat), (zd a).length = j → i + j = (zd n).length → a < 2 ^ 63 → (zd n).all (fun d => decide (1 ≤ d ∧ d ≤ kn)) = (zd a).all (fun d => decide (1 ≤ d ∧ d ≤ kn)) → zz_Z p l e (headSpec wsX8_digits ({ frames := 1, cells := 0, slots := 0, locals := 22 } : Room)).room s m ([.long x, .int (nI kn)] : List Value).toArray below meth c 0 0 (MQ below (zz_Qi G (fun r M1 => M1 = M ∧ r = zo (zs_dg x kn))) ([.long x, .int (nI kn)] : List Value).toArray s 0 0 (zz_A G)) 6 G (zz_A G) M 5 [(0, .long x), (2, .int (nI kn)), (3, .int (nI i)), (4, .long (lN a))] [] := by
      intro j
      induction j with
      | zero =>
        intro i a hj hi ha hz
        have ha0 : a = 0 := by
          rcases Nat.eq_zero_or_pos a with h | h
          · exact h
          · rw [zd_pos h ha] at hj
            cases hj
        subst ha0
        rw [zd_0] at hz
        refine zz_lload (pc := 5) E dX8_digits_5 rfl ?_
        refine zz_lconst (pc := 7) (v := lN 0) E dX8_digits_7 rfl ?_
        refine zn_lcmp_le (pc := 8) (tgt := 44) E dX8_digits_8 dX8_digits_9 (by decide) (by omega) (by omega) (fun h9 => ?_) (fun h9 => ?_)
        · refine zz_lload_n (pc := 44) E dX8_digits_44 rfl ?_
          refine zz_eql (y := lN n) hx ?_
          refine zz_lconst (pc := 45) (v := lN 0) E dX8_digits_45 rfl ?_
          refine zn_lcmp_ge (pc := 46) (tgt := 55) E dX8_digits_46 dX8_digits_47 (by decide) (by omega) (by omega) (fun h47 => ?_) (fun h47 => ?_)
          · refine zz_iload_n (pc := 55) E dX8_digits_55 rfl ?_
            exact zz_iret (pc := 56) E hr hlk dX8_digits_56 ⟨rfl, by rw [hxr, hz, if_pos (by rfl), show i = (zd n).length by omega]; rfl⟩
          · exact absurd h47 (by omega)
        · exact absurd h9 (by omega)
      | succ j ih =>
        intro i a hj hi ha hz
        have h0 : 0 < a := by
          rcases Nat.eq_zero_or_pos a with h | h
          · rw [h] at hj; cases hj
          · exact h
        rw [zd_pos h0 ha, List.length_cons] at hj
        rw [zd_pos h0 ha, List.all_cons] at hz
        refine zz_lload (pc := 5) E dX8_digits_5 rfl ?_
        refine zz_lconst (pc := 7) (v := lN 0) E dX8_digits_7 rfl ?_
        refine zn_lcmp_le (pc := 8) (tgt := 44) E dX8_digits_8 dX8_digits_9 (by decide) (by omega) (by omega) (fun h9 => ?_) (fun h9 => ?_)
        · exact absurd h9 (by omega)
        · refine zz_lload (pc := 12) E dX8_digits_12 rfl ?_
          refine zz_ldc2 (pc := 14) (v := lN 10) E clX8_digits_44 dX8_digits_14 ?_
          refine zn_lrem (pc := 17) E dX8_digits_17 (by omega) (by omega) (by omega) ?_
          refine zn_l2i (pc := 18) E dX8_digits_18 ?_
          refine zz_iconst (pc := 19) (v := nI 1) E dX8_digits_19 (by decide) ?_
          refine zz_iload_n (pc := 20) E dX8_digits_20 rfl ?_
          refine zz_ciS (pc := 21) E (kkX8_within l G hJ _ _ _ _ ) (va_cwS 3 hts gX8_digits_X8_within rfl rfl rfl (by decide +kernel) ⟨Nat.le_of_ble_eq_true rfl, Nat.le_of_ble_eq_true rfl⟩) rfl rfl (Nat.le_of_ble_eq_true rfl) dX8_digits_21 (fun r21 M21 q21 => ?_)
          obtain ⟨rfl, rfl⟩ := q21
          refine zb_if_ne (pc := 24) (tgt := 30) E dX8_digits_24 (by decide) (fun h24 => ?_) (fun h24 => ?_)
          · rw [zp_w_nI (by omega) (by decide) hkn, decide_eq_true_iff] at h24
            refine zn_inc (pc := 30) (lv' := [(0, _), (2, _), (3, _), (4, _)]) E dX8_digits_30 rfl (by decide) rfl ?_
            refine zz_lload (pc := 33) E dX8_digits_33 rfl ?_
            refine zz_ldc2 (pc := 35) (v := lN 10) E clX8_digits_44 dX8_digits_35 ?_
            refine zn_ldiv (pc := 38) E dX8_digits_38 (by omega) (by omega) (by omega) ?_
            refine zz_lstore (pc := 39) (lv' := [(0, _), (2, _), (3, _), (4, _)]) E dX8_digits_39 (by decide) rfl ?_
            refine zz_goto (pc := 41) (tgt := 5) E dX8_digits_41 (by decide) ?_
            exact zz_to (ih (i + 1) (a / 10) (by omega) (by omega) (by omega) (by rw [hz, decide_eq_true (by omega)]; rfl)) ⟨rfl, rfl, rfl, rfl, trivial⟩
          · rw [zp_w_nI (by omega) (by decide) hkn, decide_eq_false_iff_not] at h24
            refine zz_bipush (pc := 27) (v := -9) E dX8_digits_27 (by decide) ?_
            exact zz_iret (pc := 29) E hr hlk dX8_digits_29 ⟨rfl, by rw [hxr, hz, decide_eq_false h24]; rfl⟩
    exact zz_to (key _ 0 n rfl (by omega) hn rfl) ⟨rfl, rfl, rfl, rfl, trivial⟩
  · refine zz_iconst (pc := 0) (v := nI 0) E dX8_digits_0 (by decide) ?_
    refine zz_istore_n (pc := 1) (lv' := [(0, _), (2, _), (3, _)]) E dX8_digits_1 (by decide) rfl ?_
    refine zz_lload_n (pc := 2) E dX8_digits_2 rfl ?_
    refine zz_lstore (pc := 3) (lv' := [(0, _), (2, _), (3, _), (4, _)]) E dX8_digits_3 (by decide) rfl ?_
    refine zz_lload (pc := 5) E dX8_digits_5 rfl ?_
    refine zz_lconst (pc := 7) (v := lN 0) E dX8_digits_7 rfl ?_
    refine zz_lcmp (pc := 8) E dX8_digits_8 ?_
    refine zz_if_le (pc := 9) (tgt := 44) E dX8_digits_9 (by decide) (fun h9 => ?_) (fun h9 => ?_)
    · refine zz_lload_n (pc := 44) E dX8_digits_44 rfl ?_
      refine zz_lconst (pc := 45) (v := lN 0) E dX8_digits_45 rfl ?_
      refine zz_lcmp (pc := 46) E dX8_digits_46 ?_
      refine zz_if_ge (pc := 47) (tgt := 55) E dX8_digits_47 (by decide) (fun h47 => ?_) (fun h47 => ?_)
      · exact absurd hx (Int64.not_lt.mpr ((lg_cmp_ge x (lN 0)).mp h47))
      · refine zz_bipush (pc := 50) (v := -9) E dX8_digits_50 (by decide) ?_
        refine zz_goto (pc := 52) (tgt := 56) E dX8_digits_52 (by decide) ?_
        exact zz_iret (pc := 56) E hr hlk dX8_digits_56 ⟨rfl, by rw [zs_dg_neg hx]; rfl⟩
    · exact absurd hx (Int64.not_lt.mpr (Int64.le_of_lt ((lg_cmp_gt x (lN 0)).mp (Int32.not_le.mp h9))))
end
section
/-- the signs of a row, the first first -/
def zr (a : Nat) : List Nat := ((zd a).map (fun d => d - 1)).reverse
theorem zr_0 : zr 0 = [] := rfl
theorem zr_pos {a : Nat} (h : 0 < a) (ha : a < 2 ^ 63) : zr a = zr (a / 10) ++ [a % 10 - 1] := by
  unfold zr
  rw [zd_pos h ha, List.map_cons, List.reverse_cons]
theorem zr_len (a : Nat) : (zr a).length = (zd a).length := by
  unfold zr
  rw [List.length_reverse, List.length_map]
theorem zr_pos_of {a : Nat} (h : 0 < (zr a).length) : 0 < a := by
  rcases Nat.eq_zero_or_pos a with h0 | h0
  · rw [h0, zr_0] at h; cases h
  · exact h0
theorem zok_digit {n kinds most : Nat} (h : zok n kinds most = true) (h0 : 0 < n) (hn : n < 2 ^ 63) : 1 ≤ n % 10 ∧ n % 10 ≤ kinds := by
  unfold zok at h
  rw [zd_pos h0 hn, List.all_cons] at h
  simp only [Bool.and_eq_true, decide_eq_true_eq] at h
  exact h.1.1
theorem zok_tail {n kinds most : Nat} (h : zok n kinds (most + 1) = true) (h0 : 0 < n) (hn : n < 2 ^ 63) : zok (n / 10) kinds most = true := by
  rw [zok_step h0 hn] at h
  simp only [Bool.and_eq_true] at h
  exact h.2
theorem zok_mono {n kinds k2 most m2 : Nat} (h : zok n kinds most = true) (hk : kinds ≤ k2) (hm : most ≤ m2) : zok n k2 m2 = true := by
  unfold zok at h ⊢
  simp only [Bool.and_eq_true, decide_eq_true_eq, List.all_eq_true] at h ⊢
  exact ⟨fun d hd => ⟨(h.1 d hd).1, Nat.le_trans (h.1 d hd).2 hk⟩, Nat.le_trans h.2 hm⟩
theorem zok_half {n kinds most : Nat} (h : zok n kinds most = true) (hn : n < 2 ^ 63) : zok (n / 10) kinds most = true := by
  rcases Nat.eq_zero_or_pos n with h0 | h0
  · subst h0; exact zok_0 _ _
  · cases most with
    | zero => rw [zok_pos0 h0 hn] at h; cases h
    | succ m => exact zok_mono (zok_tail h h0 hn) (Nat.le_refl _) (Nat.le_succ _)
/-- what is a row's length among digits -/
theorem zs_w0 {x : Int64} {kinds most : Nat} (hm : most < 2 ^ 31) : zp_w (zo (zs_dg x kinds)) (nI 0) (nI most) = zs_row x kinds most := by
  rcases zl_cases x with ⟨n, hn, rfl⟩ | hx
  · rw [zs_dg_lN hn, zs_row_lN hn]
    unfold zok
    by_cases h : (zd n).all (fun d => decide (1 ≤ d ∧ d ≤ kinds)) = true
    · have := zd_len n
      rw [if_pos h, h]
      show zp_w (nI _) _ _ = _
      rw [zp_w_nI (by omega) (by decide) hm]
      simp
    · rw [if_neg h, Bool.eq_false_iff.mpr h]
      exact zp_w_m9 (by decide)
  · rw [zs_dg_neg hx, zs_row_neg hx]
    exact zp_w_m9 (by decide)
theorem zs_w1 {x : Int64} {kinds most : Nat} (hm : most < 2 ^ 31) : zp_w (zo (zs_dg x kinds)) (nI 1) (nI most) = (zs_row x kinds most && !decide (x = lN 0)) := by
  rcases zl_cases x with ⟨n, hn, rfl⟩ | hx
  · rw [zs_dg_lN hn, zs_row_lN hn]
    unfold zok
    have e : decide (lN n = lN 0) = decide (n = 0) := decide_eq_decide.mpr (zl_eq hn (by decide))
    rw [e]
    by_cases h : (zd n).all (fun d => decide (1 ≤ d ∧ d ≤ kinds)) = true
    · have := zd_len n
      rw [if_pos h, h]
      show zp_w (nI _) _ _ = _
      rw [zp_w_nI (by omega) (by decide) hm]
      rcases Nat.eq_zero_or_pos n with h0 | h0
      · subst h0; simp [zd_0]
      · rw [zd_pos h0 hn, List.length_cons]
        have : ¬ n = 0 := by omega
        simp [this]
    · rw [if_neg h, Bool.eq_false_iff.mpr h]
      exact zp_w_m9 (by decide)
  · rw [zs_dg_neg hx, zs_row_neg hx]
    exact zp_w_m9 (by decide)

set_option maxHeartbeats 4000000 in
set_option maxRecDepth 100000 in
theorem kkX8_isRow (l : Launch) (G : zz_C) (hJ : zz_J G) (M : zz_M) (x : Int32) (mo : Nat) (hmo : mo < 2 ^ 31) : Met l yX8_isRow wsX8_isRow ({ frames := 2, cells := 0, slots := 0, locals := 47 } : Room) (zz_P G M [.int x, .int (nI mo)]) (zz_Qi G (fun r M1 => M1 = M ∧ r = zz_b (zs_row x.toInt64 6 mo))) 0 0 (zz_A G) := by
  refine zz_start hJ (by decide) rfl (Nat.le_of_ble_eq_true rfl) ?_
  intro p e s m below meth c E hr hlk
  have hts := E.2.2.2.2.1
  show zz_Z p l e (headSpec wsX8_isRow ({ frames := 2, cells := 0, slots := 0, locals := 47 } : Room)).room s m ([.int x, .int (nI mo)] : List Value).toArray below meth c 0 0 (MQ below (zz_Qi G (fun r M1 => M1 = M ∧ r = zz_b (zs_row x.toInt64 6 mo))) ([.int x, .int (nI mo)] : List Value).toArray s 0 0 (zz_A G)) 2 G (zz_A G) M 0 [(0, .int x), (1, .int (nI mo))] []
  refine zz_iload_n (pc := 0) E dX8_isRow_0 rfl ?_
  refine zz_i2l (pc := 1) E dX8_isRow_1 rfl ?_
  refine zz_bipush (pc := 2) (v := nI 6) E dX8_isRow_2 (by decide) ?_
  refine zz_ciS (pc := 4) E (kkX8_digits l G hJ _ _ _ (by omega)) (va_cwS 2 hts gX8_isRow_X8_digits rfl rfl rfl (by decide +kernel) ⟨Nat.le_of_ble_eq_true rfl, Nat.le_of_ble_eq_true rfl⟩) rfl rfl (Nat.le_of_ble_eq_true rfl) dX8_isRow_4 (fun r4 M4 q4 => ?_)
  obtain ⟨rfl, rfl⟩ := q4
  refine zz_iconst (pc := 7) (v := nI 0) E dX8_isRow_7 (by decide) ?_
  refine zz_iload_n (pc := 8) E dX8_isRow_8 rfl ?_
  refine zz_ciS (pc := 9) E (kkX8_within l G hJ _ _ _ _ ) (va_cwS 3 hts gX8_isRow_X8_within rfl rfl rfl (by decide +kernel) ⟨Nat.le_of_ble_eq_true rfl, Nat.le_of_ble_eq_true rfl⟩) rfl rfl (Nat.le_of_ble_eq_true rfl) dX8_isRow_9 (fun r9 M9 q9 => ?_)
  obtain ⟨rfl, rfl⟩ := q9
  exact zz_zret (pc := 12) E hr hlk dX8_isRow_12 (zz_b01 _) ⟨rfl, by rw [zs_w0 hmo]⟩

set_option maxHeartbeats 4000000 in
set_option maxRecDepth 100000 in
theorem kkX8_isClaim (l : Launch) (G : zz_C) (hJ : zz_J G) (M : zz_M) (sg : Nat) (x : Int32) (hsg : sg < 2 ^ 31) : Met l yX8_isClaim wsX8_isClaim ({ frames := 2, cells := 0, slots := 0, locals := 47 } : Room) (zz_P G M [.int (nI sg), .int x]) (zz_Qi G (fun r M1 => M1 = M ∧ r = zz_b (zs_row x.toInt64 sg 3 && !decide (x.toInt64 = lN 0)))) 0 0 (zz_A G) := by
  refine zz_start hJ (by decide) rfl (Nat.le_of_ble_eq_true rfl) ?_
  intro p e s m below meth c E hr hlk
  have hts := E.2.2.2.2.1
  show zz_Z p l e (headSpec wsX8_isClaim ({ frames := 2, cells := 0, slots := 0, locals := 47 } : Room)).room s m ([.int (nI sg), .int x] : List Value).toArray below meth c 0 0 (MQ below (zz_Qi G (fun r M1 => M1 = M ∧ r = zz_b (zs_row x.toInt64 sg 3 && !decide (x.toInt64 = lN 0)))) ([.int (nI sg), .int x] : List Value).toArray s 0 0 (zz_A G)) 3 G (zz_A G) M 0 [(0, .int (nI sg)), (1, .int x)] []
  refine zz_iload_n (pc := 0) E dX8_isClaim_0 rfl ?_
  refine zz_i2l (pc := 1) E dX8_isClaim_1 rfl ?_
  refine zz_iload_n (pc := 2) E dX8_isClaim_2 rfl ?_
  refine zz_ciS (pc := 3) E (kkX8_digits l G hJ _ _ _ (by omega)) (va_cwS 2 hts gX8_isClaim_X8_digits rfl rfl rfl (by decide +kernel) ⟨Nat.le_of_ble_eq_true rfl, Nat.le_of_ble_eq_true rfl⟩) rfl rfl (Nat.le_of_ble_eq_true rfl) dX8_isClaim_3 (fun r3 M3 q3 => ?_)
  obtain ⟨rfl, rfl⟩ := q3
  refine zz_istore_n (pc := 6) (lv' := [(0, _), (1, _), (2, _)]) E dX8_isClaim_6 (by decide) rfl ?_
  refine zz_iload_n (pc := 7) E dX8_isClaim_7 rfl ?_
  refine zz_iconst (pc := 8) (v := nI 1) E dX8_isClaim_8 (by decide) ?_
  refine zz_iconst (pc := 9) (v := nI 3) E dX8_isClaim_9 (by decide) ?_
  refine zz_ciS (pc := 10) E (kkX8_within l G hJ _ _ _ _ ) (va_cwS 3 hts gX8_isClaim_X8_within rfl rfl rfl (by decide +kernel) ⟨Nat.le_of_ble_eq_true rfl, Nat.le_of_ble_eq_true rfl⟩) rfl rfl (Nat.le_of_ble_eq_true rfl) dX8_isClaim_10 (fun r10 M10 q10 => ?_)
  obtain ⟨rfl, rfl⟩ := q10
  exact zz_zret (pc := 13) E hr hlk dX8_isClaim_13 (zz_b01 _) ⟨rfl, by rw [zs_w1 (by decide)]⟩

theorem clX8_digitAt_44 : Cond.constantLong RX8 44 (10) ∈ wsX8_digitAt := by decide +kernel
set_option maxHeartbeats 4000000 in
set_option maxRecDepth 100000 in
theorem kkX8_digitAt (l : Launch) (G : zz_C) (hJ : zz_J G) (M : zz_M) (a n k kn : Nat) (ha : a < 2 ^ 63) (hn : (zd a).length = n) (hk : k < n) (hz : zok a kn 20 = true) : Met l yX8_digitAt wsX8_digitAt ({ frames := 0, cells := 0, slots := 0, locals := 0 } : Room) (zz_P G M [.long (lN a), .int (nI n), .int (nI k)]) (zz_Qi G (fun r M1 => M1 = M ∧ r = nI ((zr a).getD k 0))) 0 0 (zz_A G) := by
  refine zz_start hJ (by decide) rfl (Nat.le_of_ble_eq_true rfl) ?_
  intro p e s m below meth c E hr hlk
  have hts := E.2.2.2.2.1
  show zz_Z p l e (headSpec wsX8_digitAt ({ frames := 0, cells := 0, slots := 0, locals := 0 } : Room)).room s m ([.long (lN a), .int (nI n), .int (nI k)] : List Value).toArray below meth c 0 0 (MQ below (zz_Qi G (fun r M1 => M1 = M ∧ r = nI ((zr a).getD k 0))) ([.long (lN a), .int (nI n), .int (nI k)] : List Value).toArray s 0 0 (zz_A G)) 7 G (zz_A G) M 0 [(0, .long (lN a)), (2, .int (nI n)), (3, .int (nI k))] []
  have hn20 := zd_len a
  refine zz_lload_n (pc := 0) E dX8_digitAt_0 rfl ?_
  refine zz_lstore (pc := 1) (lv' := [(0, _), (2, _), (3, _), (4, _)]) E dX8_digitAt_1 (by decide) rfl ?_
  refine zz_iload_n (pc := 3) E dX8_digitAt_3 rfl ?_
  refine zz_iconst (pc := 4) (v := nI 1) E dX8_digitAt_4 (by decide) ?_
  refine zn_isub (pc := 5) E dX8_digitAt_5 (by omega) ?_
  refine zz_istore (pc := 6) (lv' := [(0, _), (2, _), (3, _), (4, _), (6, _)]) E dX8_digitAt_6 (by decide) rfl ?_
  have key : ∀ (j x b : Nat), x = k + j → b < 2 ^ 63 → zok b kn 20 = true → (zr b).length = x + 1 → (∃ t, zr a = zr b ++ t) → x < 20 → zz_Z p l e (headSpec wsX8_digitAt ({ frames := 0, cells := 0, slots := 0, locals := 0 } : Room)).room s m ([.long (lN a), .int (nI n), .int (nI k)] : List Value).toArray below meth c 0 0 (MQ below (zz_Qi G (fun r M1 => M1 = M ∧ r = nI ((zr a).getD k 0))) ([.long (lN a), .int (nI n), .int (nI k)] : List Value).toArray s 0 0 (zz_A G)) 7 G (zz_A G) M 8 [(0, .long (lN a)), (2, .int (nI n)), (3, .int (nI k)), (4, .long (lN b)), (6, .int (nI x))] [] := by
    intro j
    induction j with
    | zero =>
      intro x b hx hb hzb hl ht hx20
      have h0 := zr_pos_of (a := b) (by omega)
      have hd := zok_digit hzb h0 hb
      refine zz_iload (pc := 8) E dX8_digitAt_8 rfl ?_
      refine zz_iload_n (pc := 10) E dX8_digitAt_10 rfl ?_
      refine zn_icmp_le (pc := 11) (tgt := 28) E dX8_digitAt_11 (by decide) (by omega) (by omega) (fun h11 => ?_) (fun h11 => ?_)
      · refine zz_lload (pc := 28) E dX8_digitAt_28 rfl ?_
        refine zz_ldc2 (pc := 30) (v := lN 10) E clX8_digitAt_44 dX8_digitAt_30 ?_
        refine zn_lrem (pc := 33) E dX8_digitAt_33 (by omega) (by omega) (by omega) ?_
        refine zn_l2i (pc := 34) E dX8_digitAt_34 ?_
        refine zz_iconst (pc := 35) (v := nI 1) E dX8_digitAt_35 (by decide) ?_
        refine zn_isub (pc := 36) E dX8_digitAt_36 (by omega) ?_
        exact zz_iret (pc := 37) E hr hlk dX8_digitAt_37 ⟨rfl, by obtain ⟨t, ht⟩ := ht; rw [ht, zr_pos h0 hb]; rw [zr_pos h0 hb, List.length_append] at hl; congr 1; have hk2 : k = (zr (b / 10)).length := by { simp at hl; omega }; rw [hk2]; simp⟩
      · exact absurd h11 (by omega)
    | succ j ih =>
      intro x b hx hb hzb hl ht hx20
      have h0 := zr_pos_of (a := b) (by omega)
      have e := zr_pos h0 hb
      obtain ⟨x, rfl⟩ : ∃ y, x = y + 1 := ⟨x - 1, by omega⟩
      refine zz_iload (pc := 8) E dX8_digitAt_8 rfl ?_
      refine zz_iload_n (pc := 10) E dX8_digitAt_10 rfl ?_
      refine zn_icmp_le (pc := 11) (tgt := 28) E dX8_digitAt_11 (by decide) (by omega) (by omega) (fun h11 => ?_) (fun h11 => ?_)
      · exact absurd h11 (by omega)
      · refine zz_lload (pc := 14) E dX8_digitAt_14 rfl ?_
        refine zz_ldc2 (pc := 16) (v := lN 10) E clX8_digitAt_44 dX8_digitAt_16 ?_
        refine zn_ldiv (pc := 19) E dX8_digitAt_19 (by omega) (by omega) (by omega) ?_
        refine zz_lstore (pc := 20) (lv' := [(0, _), (2, _), (3, _), (4, _), (6, _)]) E dX8_digitAt_20 (by decide) rfl ?_
        refine zn_dec (pc := 22) (lv' := [(0, _), (2, _), (3, _), (4, _), (6, _)]) E dX8_digitAt_22 rfl (by decide) rfl ?_
        refine zz_goto (pc := 25) (tgt := 8) E dX8_digitAt_25 (by decide) ?_
        exact zz_to (ih x (b / 10) (by omega) (by omega) (zok_half hzb hb) (by rw [e, List.length_append] at hl; simpa using hl) (by obtain ⟨t, ht⟩ := ht; exact ⟨[b % 10 - 1] ++ t, by rw [ht, e]; simp⟩) (by omega)) ⟨rfl, rfl, rfl, rfl, rfl, trivial⟩
  exact zz_to (key (n - 1 - k) (n - 1) a (by omega) ha hz (by rw [zr_len]; omega) ⟨[], by simp⟩ (by omega)) ⟨rfl, rfl, rfl, rfl, rfl, trivial⟩

def zbit (w j : Nat) : Bool := decide (w / 2 ^ j % 2 = 1)
theorem zbit_ok : ∀ w, w < 64 → ∀ j, j < 6 → (nI w >>> (nI j &&& 31) &&& nI 1 = nI 1 ↔ zbit w j = true) := by decide +kernel
def zpf : Nat → Nat → Nat
  | 0, _ => 0
  | f + 1, w => w % 2 + zpf f (w / 2)
/-- how many of six bits -/
def zpc (w : Nat) : Nat := zpf 6 w
theorem zand1 : ∀ w, w < 64 → nI w &&& nI 1 = nI (w % 2) := by decide +kernel
theorem zshr1 : ∀ w, w < 64 → nI w >>> (nI 1 &&& 31) = nI (w / 2) := by decide +kernel

set_option maxHeartbeats 4000000 in
set_option maxRecDepth 100000 in
theorem kkX8_has (l : Launch) (G : zz_C) (hJ : zz_J G) (M : zz_M) (w j : Nat) (hw : w < 64) (hj : j < 6) : Met l yX8_has wsX8_has ({ frames := 0, cells := 0, slots := 0, locals := 0 } : Room) (zz_P G M [.int (nI w), .int (nI j)]) (zz_Qi G (fun r M1 => M1 = M ∧ r = zz_b (zbit w j))) 0 0 (zz_A G) := by
  refine zz_start hJ (by decide) rfl (Nat.le_of_ble_eq_true rfl) ?_
  intro p e s m below meth c E hr hlk
  have hts := E.2.2.2.2.1
  show zz_Z p l e (headSpec wsX8_has ({ frames := 0, cells := 0, slots := 0, locals := 0 } : Room)).room s m ([.int (nI w), .int (nI j)] : List Value).toArray below meth c 0 0 (MQ below (zz_Qi G (fun r M1 => M1 = M ∧ r = zz_b (zbit w j))) ([.int (nI w), .int (nI j)] : List Value).toArray s 0 0 (zz_A G)) 2 G (zz_A G) M 0 [(0, .int (nI w)), (1, .int (nI j))] []
  refine zz_iload_n (pc := 0) E dX8_has_0 rfl ?_
  refine zz_iload_n (pc := 1) E dX8_has_1 rfl ?_
  refine zz_ishr (pc := 2) E dX8_has_2 ?_
  refine zz_iconst (pc := 3) (v := nI 1) E dX8_has_3 (by decide) ?_
  refine zz_iand (pc := 4) E dX8_has_4 ?_
  refine zz_iconst (pc := 5) (v := nI 1) E dX8_has_5 (by decide) ?_
  refine zz_icmp_ne (pc := 6) (tgt := 13) E dX8_has_6 (by decide) (fun h6 => ?_) (fun h6 => ?_)
  · refine zz_iconst (pc := 13) (v := nI 0) E dX8_has_13 (by decide) ?_
    exact zz_zret (pc := 14) E hr hlk dX8_has_14 (by decide) ⟨rfl, by first | (rw [Bool.eq_false_iff.mpr (fun q => h6 ((zbit_ok w hw j hj).mpr q))]; rfl) | (rw [(zbit_ok w hw j hj).mp h6]; rfl)⟩
  · refine zz_iconst (pc := 9) (v := nI 1) E dX8_has_9 (by decide) ?_
    refine zz_goto (pc := 10) (tgt := 14) E dX8_has_10 (by decide) ?_
    exact zz_zret (pc := 14) E hr hlk dX8_has_14 (by decide) ⟨rfl, by first | (rw [Bool.eq_false_iff.mpr (fun q => h6 ((zbit_ok w hw j hj).mpr q))]; rfl) | (rw [(zbit_ok w hw j hj).mp h6]; rfl)⟩

set_option maxHeartbeats 4000000 in
set_option maxRecDepth 100000 in
theorem kkX8_sizeOf (l : Launch) (G : zz_C) (hJ : zz_J G) (M : zz_M) (w : Nat) (hw : w < 64) : Met l yX8_sizeOf wsX8_sizeOf ({ frames := 0, cells := 0, slots := 0, locals := 0 } : Room) (zz_P G M [.int (nI w)]) (zz_Qi G (fun r M1 => M1 = M ∧ r = nI (zpc w))) 0 0 (zz_A G) := by
  refine zz_start hJ (by decide) rfl (Nat.le_of_ble_eq_true rfl) ?_
  intro p e s m below meth c E hr hlk
  have hts := E.2.2.2.2.1
  show zz_Z p l e (headSpec wsX8_sizeOf ({ frames := 0, cells := 0, slots := 0, locals := 0 } : Room)).room s m ([.int (nI w)] : List Value).toArray below meth c 0 0 (MQ below (zz_Qi G (fun r M1 => M1 = M ∧ r = nI (zpc w))) ([.int (nI w)] : List Value).toArray s 0 0 (zz_A G)) 3 G (zz_A G) M 0 [(0, .int (nI w))] []
  refine zz_iconst (pc := 0) (v := nI 0) E dX8_sizeOf_0 (by decide) ?_
  refine zz_istore_n (pc := 1) (lv' := [(0, _), (1, _)]) E dX8_sizeOf_1 (by decide) rfl ?_
  refine zz_iload_n (pc := 2) E dX8_sizeOf_2 rfl ?_
  refine zz_istore_n (pc := 3) (lv' := [(0, _), (1, _), (2, _)]) E dX8_sizeOf_3 (by decide) rfl ?_
  have key : ∀ (f i b : Nat), b < 2 ^ f → b < 64 → i + zpf f b = zpc w → zz_Z p l e (headSpec wsX8_sizeOf ({ frames := 0, cells := 0, slots := 0, locals := 0 } : Room)).room s m ([.int (nI w)] : List Value).toArray below meth c 0 0 (MQ below (zz_Qi G (fun r M1 => M1 = M ∧ r = nI (zpc w))) ([.int (nI w)] : List Value).toArray s 0 0 (zz_A G)) 3 G (zz_A G) M 4 [(0, .int (nI w)), (1, .int (nI i)), (2, .int (nI b))] [] := by
    intro f
    induction f with
    | zero =>
      intro i b hb hb2 hz
      have hb0 : b = 0 := by simpa using hb
      refine zz_iload_n (pc := 4) E dX8_sizeOf_4 rfl ?_
      refine zn_if_le (pc := 5) (tgt := 21) E dX8_sizeOf_5 (by decide) (by omega) (fun h5 => ?_) (fun h5 => ?_)
      · refine zz_iload_n (pc := 21) E dX8_sizeOf_21 rfl ?_
        exact zz_iret (pc := 22) E hr hlk dX8_sizeOf_22 ⟨rfl, by rw [← hz]; rfl⟩
      · exact absurd h5 (by omega)
    | succ f ih =>
      intro i b hb hb2 hz
      refine zz_iload_n (pc := 4) E dX8_sizeOf_4 rfl ?_
      refine zn_if_le (pc := 5) (tgt := 21) E dX8_sizeOf_5 (by decide) (by omega) (fun h5 => ?_) (fun h5 => ?_)
      · have hb0 : b = 0 := by omega
        subst hb0
        have hz0 : ∀ g, zpf g 0 = 0 := by { intro g; induction g with | zero => rfl | succ g ig => rw [zpf, show 0 / 2 = 0 from rfl, ig] }
        refine zz_iload_n (pc := 21) E dX8_sizeOf_21 rfl ?_
        exact zz_iret (pc := 22) E hr hlk dX8_sizeOf_22 ⟨rfl, by rw [← hz, hz0]; rfl⟩
      · refine zz_iload_n (pc := 8) E dX8_sizeOf_8 rfl ?_
        refine zz_iload_n (pc := 9) E dX8_sizeOf_9 rfl ?_
        refine zz_iconst (pc := 10) (v := nI 1) E dX8_sizeOf_10 (by decide) ?_
        refine zz_iand (pc := 11) E dX8_sizeOf_11 ?_
        refine zz_eqi (y := nI (b % 2)) (zand1 b hb2) ?_
        refine zn_iadd (pc := 12) E dX8_sizeOf_12 ?_
        refine zz_istore_n (pc := 13) (lv' := [(0, _), (1, _), (2, _)]) E dX8_sizeOf_13 (by decide) rfl ?_
        refine zz_iload_n (pc := 14) E dX8_sizeOf_14 rfl ?_
        refine zz_iconst (pc := 15) (v := nI 1) E dX8_sizeOf_15 (by decide) ?_
        refine zz_ishr (pc := 16) E dX8_sizeOf_16 ?_
        refine zz_eqi (y := nI (b / 2)) (zshr1 b hb2) ?_
        refine zz_istore_n (pc := 17) (lv' := [(0, _), (1, _), (2, _)]) E dX8_sizeOf_17 (by decide) rfl ?_
        refine zz_goto (pc := 18) (tgt := 4) E dX8_sizeOf_18 (by decide) ?_
        exact zz_to (ih (i + b % 2) (b / 2) (by rw [Nat.pow_succ] at hb; omega) (by omega) (by rw [zpf] at hz; omega)) ⟨rfl, rfl, rfl, trivial⟩
  exact zz_to (key 6 0 w hw hw (by show 0 + zpc w = zpc w; omega)) ⟨rfl, rfl, rfl, trivial⟩

/-- the number of a row of m letters -/
def zlb : Nat → Nat → Nat
  | 0, _ => 0
  | m + 1, v => (v % 3 + 1) + 10 * zlb m (v / 3)
/-- the row at a place among all rows of so many kinds -/
def zrof (kinds : Nat) : Nat → Nat → Nat
  | 0, _ => 0
  | f + 1, v => if v = 0 ∨ kinds = 0 then 0 else ((v - 1) % kinds + 1) + 10 * zrof kinds f ((v - 1) / kinds)
def zro (place kinds : Nat) : Nat := zrof kinds 9 place
def zfu (a : Nat) : Nat := if 100 ≤ a then 100 else if 10 ≤ a then 10 else 1

theorem clX8_lettersBy_44 : Cond.constantLong RX8 44 (10) ∈ wsX8_lettersBy := by decide +kernel
set_option maxHeartbeats 4000000 in
set_option maxRecDepth 100000 in
theorem kkX8_lettersBy (l : Launch) (G : zz_C) (hJ : zz_J G) (M : zz_M) (v n : Nat) (hv : v < 2 ^ 31) (hn : n < 2 ^ 31) : Met l yX8_lettersBy wsX8_lettersBy ({ frames := 0, cells := 0, slots := 0, locals := 0 } : Room) (zz_P G M [.int (nI v), .int (nI n)]) (zz_Ql G (fun r M1 => M1 = M ∧ r = lN (zlb n v))) 0 0 (zz_A G) := by
  refine zz_start hJ (by decide) rfl (Nat.le_of_ble_eq_true rfl) ?_
  intro p e s m below meth c E hr hlk
  have hts := E.2.2.2.2.1
  show zz_Z p l e (headSpec wsX8_lettersBy ({ frames := 0, cells := 0, slots := 0, locals := 0 } : Room)).room s m ([.int (nI v), .int (nI n)] : List Value).toArray below meth c 0 0 (MQ below (zz_Ql G (fun r M1 => M1 = M ∧ r = lN (zlb n v))) ([.int (nI v), .int (nI n)] : List Value).toArray s 0 0 (zz_A G)) 8 G (zz_A G) M 0 [(0, .int (nI v)), (1, .int (nI n))] []
  refine zz_lconst (pc := 0) (v := lN 0) E dX8_lettersBy_0 rfl ?_
  refine zz_lstore_n (pc := 1) (lv' := [(0, _), (1, _), (2, _)]) E dX8_lettersBy_1 (by decide) rfl ?_
  refine zz_lconst (pc := 2) (v := lN 1) E dX8_lettersBy_2 rfl ?_
  refine zz_lstore (pc := 3) (lv' := [(0, _), (1, _), (2, _), (4, _)]) E dX8_lettersBy_3 (by decide) rfl ?_
  refine zz_iload_n (pc := 5) E dX8_lettersBy_5 rfl ?_
  refine zz_istore (pc := 6) (lv' := [(0, _), (1, _), (2, _), (4, _), (6, _)]) E dX8_lettersBy_6 (by decide) rfl ?_
  refine zz_iconst (pc := 8) (v := nI 0) E dX8_lettersBy_8 (by decide) ?_
  refine zz_istore (pc := 9) (lv' := [(0, _), (1, _), (2, _), (4, _), (6, _), (7, _)]) E dX8_lettersBy_9 (by decide) rfl ?_
  have key : ∀ (j k its by_ left : Nat), k + j = n → left < 2 ^ 31 → its + by_ * zlb j left = zlb n v → zz_Z p l e (headSpec wsX8_lettersBy ({ frames := 0, cells := 0, slots := 0, locals := 0 } : Room)).room s m ([.int (nI v), .int (nI n)] : List Value).toArray below meth c 0 0 (MQ below (zz_Ql G (fun r M1 => M1 = M ∧ r = lN (zlb n v))) ([.int (nI v), .int (nI n)] : List Value).toArray s 0 0 (zz_A G)) 8 G (zz_A G) M 11 [(0, .int (nI v)), (1, .int (nI n)), (2, .long (lN its)), (4, .long (lN by_)), (6, .int (nI left)), (7, .int (nI k))] [] := by
    intro j
    induction j with
    | zero =>
      intro k its by_ left hk hl hz
      refine zz_iload (pc := 11) E dX8_lettersBy_11 rfl ?_
      refine zz_iload_n (pc := 13) E dX8_lettersBy_13 rfl ?_
      refine zn_icmp_ge (pc := 14) (tgt := 50) E dX8_lettersBy_14 (by decide) (by omega) (by omega) (fun h14 => ?_) (fun h14 => ?_)
      · refine zz_lload_n (pc := 50) E dX8_lettersBy_50 rfl ?_
        exact zz_lret (pc := 51) E hr hlk dX8_lettersBy_51 ⟨rfl, by rw [← hz, zlb]; rfl⟩
      · exact absurd h14 (by omega)
    | succ j ih =>
      intro k its by_ left hk hl hz
      refine zz_iload (pc := 11) E dX8_lettersBy_11 rfl ?_
      refine zz_iload_n (pc := 13) E dX8_lettersBy_13 rfl ?_
      refine zn_icmp_ge (pc := 14) (tgt := 50) E dX8_lettersBy_14 (by decide) (by omega) (by omega) (fun h14 => ?_) (fun h14 => ?_)
      · exact absurd h14 (by omega)
      · refine zz_lload_n (pc := 17) E dX8_lettersBy_17 rfl ?_
        refine zz_lload (pc := 18) E dX8_lettersBy_18 rfl ?_
        refine zz_iload (pc := 20) E dX8_lettersBy_20 rfl ?_
        refine zz_iconst (pc := 22) (v := nI 3) E dX8_lettersBy_22 (by decide) ?_
        refine zn_irem (pc := 23) E dX8_lettersBy_23 (by omega) (by omega) (by omega) ?_
        refine zz_iconst (pc := 24) (v := nI 1) E dX8_lettersBy_24 (by decide) ?_
        refine zn_iadd (pc := 25) E dX8_lettersBy_25 ?_
        refine zn_i2l (pc := 26) E dX8_lettersBy_26 (by omega) ?_
        refine zn_lmul (pc := 27) E dX8_lettersBy_27 ?_
        refine zn_ladd (pc := 28) E dX8_lettersBy_28 ?_
        refine zz_lstore_n (pc := 29) (lv' := [(0, _), (1, _), (2, _), (4, _), (6, _), (7, _)]) E dX8_lettersBy_29 (by decide) rfl ?_
        refine zz_iload (pc := 30) E dX8_lettersBy_30 rfl ?_
        refine zz_iconst (pc := 32) (v := nI 3) E dX8_lettersBy_32 (by decide) ?_
        refine zn_idiv (pc := 33) E dX8_lettersBy_33 (by omega) (by omega) (by omega) ?_
        refine zz_istore (pc := 34) (lv' := [(0, _), (1, _), (2, _), (4, _), (6, _), (7, _)]) E dX8_lettersBy_34 (by decide) rfl ?_
        refine zz_lload (pc := 36) E dX8_lettersBy_36 rfl ?_
        refine zz_ldc2 (pc := 38) (v := lN 10) E clX8_lettersBy_44 dX8_lettersBy_38 ?_
        refine zn_lmul (pc := 41) E dX8_lettersBy_41 ?_
        refine zz_lstore (pc := 42) (lv' := [(0, _), (1, _), (2, _), (4, _), (6, _), (7, _)]) E dX8_lettersBy_42 (by decide) rfl ?_
        refine zn_inc (pc := 44) (lv' := [(0, _), (1, _), (2, _), (4, _), (6, _), (7, _)]) E dX8_lettersBy_44 rfl (by decide) rfl ?_
        refine zz_goto (pc := 47) (tgt := 11) E dX8_lettersBy_47 (by decide) ?_
        exact zz_to (ih (k + 1) (its + by_ * (left % 3 + 1)) (by_ * 10) (left / 3) (by omega) (by omega) (by rw [← hz, zlb]; grind)) ⟨rfl, rfl, rfl, rfl, rfl, rfl, trivial⟩
  exact zz_to (key n 0 0 1 v (by omega) hv (by omega)) ⟨rfl, rfl, rfl, rfl, rfl, rfl, trivial⟩

set_option maxHeartbeats 4000000 in
set_option maxRecDepth 100000 in
theorem kkX7_rowInOrder (l : Launch) (G : zz_C) (hJ : zz_J G) (M : zz_M) (v n : Nat) (hv : v < 2 ^ 31) (hn : n < 2 ^ 31) : Met l yX7_rowInOrder wsX7_rowInOrder ({ frames := 0, cells := 0, slots := 0, locals := 0 } : Room) (zz_P G M [.int (nI v), .int (nI n)]) (zz_Qi G (fun r M1 => M1 = M ∧ r = nI (zro v n))) 0 0 (zz_A G) := by
  refine zz_start hJ (by decide) rfl (Nat.le_of_ble_eq_true rfl) ?_
  intro p e s m below meth c E hr hlk
  have hts := E.2.2.2.2.1
  show zz_Z p l e (headSpec wsX7_rowInOrder ({ frames := 0, cells := 0, slots := 0, locals := 0 } : Room)).room s m ([.int (nI v), .int (nI n)] : List Value).toArray below meth c 0 0 (MQ below (zz_Qi G (fun r M1 => M1 = M ∧ r = nI (zro v n))) ([.int (nI v), .int (nI n)] : List Value).toArray s 0 0 (zz_A G)) 6 G (zz_A G) M 0 [(0, .int (nI v)), (1, .int (nI n))] []
  refine zz_iconst (pc := 0) (v := nI 0) E dX7_rowInOrder_0 (by decide) ?_
  refine zz_istore_n (pc := 1) (lv' := [(0, _), (1, _), (2, _)]) E dX7_rowInOrder_1 (by decide) rfl ?_
  refine zz_iconst (pc := 2) (v := nI 1) E dX7_rowInOrder_2 (by decide) ?_
  refine zz_istore_n (pc := 3) (lv' := [(0, _), (1, _), (2, _), (3, _)]) E dX7_rowInOrder_3 (by decide) rfl ?_
  refine zz_iload_n (pc := 4) E dX7_rowInOrder_4 rfl ?_
  refine zz_istore (pc := 5) (lv' := [(0, _), (1, _), (2, _), (3, _), (4, _)]) E dX7_rowInOrder_5 (by decide) rfl ?_
  refine zz_iconst (pc := 7) (v := nI 0) E dX7_rowInOrder_7 (by decide) ?_
  refine zz_istore (pc := 8) (lv' := [(0, _), (1, _), (2, _), (3, _), (4, _), (5, _)]) E dX7_rowInOrder_8 (by decide) rfl ?_
  have key : ∀ (j k row unit left : Nat), k + j = 9 → left < 2 ^ 31 → row + unit * zrof n j left = zro v n → zz_Z p l e (headSpec wsX7_rowInOrder ({ frames := 0, cells := 0, slots := 0, locals := 0 } : Room)).room s m ([.int (nI v), .int (nI n)] : List Value).toArray below meth c 0 0 (MQ below (zz_Qi G (fun r M1 => M1 = M ∧ r = nI (zro v n))) ([.int (nI v), .int (nI n)] : List Value).toArray s 0 0 (zz_A G)) 6 G (zz_A G) M 10 [(0, .int (nI v)), (1, .int (nI n)), (2, .int (nI row)), (3, .int (nI unit)), (4, .int (nI left)), (5, .int (nI k))] [] := by
    intro j
    induction j with
    | zero =>
      intro k row unit left hk hl hz
      refine zz_iload (pc := 10) E dX7_rowInOrder_10 rfl ?_
      refine zz_bipush (pc := 12) (v := nI 9) E dX7_rowInOrder_12 (by decide) ?_
      refine zn_icmp_ge (pc := 14) (tgt := 58) E dX7_rowInOrder_14 (by decide) (by omega) (by omega) (fun h14 => ?_) (fun h14 => ?_)
      · refine zz_iload_n (pc := 58) E dX7_rowInOrder_58 rfl ?_
        exact zz_iret (pc := 59) E hr hlk dX7_rowInOrder_59 ⟨rfl, by rw [← hz, zrof]; rfl⟩
      · exact absurd h14 (by omega)
    | succ j ih =>
      intro k row unit left hk hl hz
      refine zz_iload (pc := 10) E dX7_rowInOrder_10 rfl ?_
      refine zz_bipush (pc := 12) (v := nI 9) E dX7_rowInOrder_12 (by decide) ?_
      refine zn_icmp_ge (pc := 14) (tgt := 58) E dX7_rowInOrder_14 (by decide) (by omega) (by omega) (fun h14 => ?_) (fun h14 => ?_)
      · exact absurd h14 (by omega)
      · refine zz_iload (pc := 17) E dX7_rowInOrder_17 rfl ?_
        refine zn_if_le (pc := 19) (tgt := 58) E dX7_rowInOrder_19 (by decide) (by omega) (fun h19 => ?_) (fun h19 => ?_)
        · refine zz_iload_n (pc := 58) E dX7_rowInOrder_58 rfl ?_
          exact zz_iret (pc := 59) E hr hlk dX7_rowInOrder_59 ⟨rfl, by rw [← hz, zrof, if_pos (by omega)]; rfl⟩
        · refine zz_iload_n (pc := 22) E dX7_rowInOrder_22 rfl ?_
          refine zn_if_le (pc := 23) (tgt := 58) E dX7_rowInOrder_23 (by decide) (by omega) (fun h23 => ?_) (fun h23 => ?_)
          · refine zz_iload_n (pc := 58) E dX7_rowInOrder_58 rfl ?_
            exact zz_iret (pc := 59) E hr hlk dX7_rowInOrder_59 ⟨rfl, by rw [← hz, zrof, if_pos (by omega)]; rfl⟩
          · refine zz_iload_n (pc := 26) E dX7_rowInOrder_26 rfl ?_
            refine zz_iload (pc := 27) E dX7_rowInOrder_27 rfl ?_
            refine zz_iconst (pc := 29) (v := nI 1) E dX7_rowInOrder_29 (by decide) ?_
            refine zn_isub (pc := 30) E dX7_rowInOrder_30 (by omega) ?_
            refine zz_iload_n (pc := 31) E dX7_rowInOrder_31 rfl ?_
            refine zn_irem (pc := 32) E dX7_rowInOrder_32 (by omega) (by omega) (by omega) ?_
            refine zz_iconst (pc := 33) (v := nI 1) E dX7_rowInOrder_33 (by decide) ?_
            refine zn_iadd (pc := 34) E dX7_rowInOrder_34 ?_
            refine zz_iload_n (pc := 35) E dX7_rowInOrder_35 rfl ?_
            refine zn_imul (pc := 36) E dX7_rowInOrder_36 ?_
            refine zn_iadd (pc := 37) E dX7_rowInOrder_37 ?_
            refine zz_istore_n (pc := 38) (lv' := [(0, _), (1, _), (2, _), (3, _), (4, _), (5, _)]) E dX7_rowInOrder_38 (by decide) rfl ?_
            refine zz_iload_n (pc := 39) E dX7_rowInOrder_39 rfl ?_
            refine zz_bipush (pc := 40) (v := nI 10) E dX7_rowInOrder_40 (by decide) ?_
            refine zn_imul (pc := 42) E dX7_rowInOrder_42 ?_
            refine zz_istore_n (pc := 43) (lv' := [(0, _), (1, _), (2, _), (3, _), (4, _), (5, _)]) E dX7_rowInOrder_43 (by decide) rfl ?_
            refine zz_iload (pc := 44) E dX7_rowInOrder_44 rfl ?_
            refine zz_iconst (pc := 46) (v := nI 1) E dX7_rowInOrder_46 (by decide) ?_
            refine zn_isub (pc := 47) E dX7_rowInOrder_47 (by omega) ?_
            refine zz_iload_n (pc := 48) E dX7_rowInOrder_48 rfl ?_
            refine zn_idiv (pc := 49) E dX7_rowInOrder_49 (by omega) (by omega) (by omega) ?_
            refine zz_istore (pc := 50) (lv' := [(0, _), (1, _), (2, _), (3, _), (4, _), (5, _)]) E dX7_rowInOrder_50 (by decide) rfl ?_
            refine zn_inc (pc := 52) (lv' := [(0, _), (1, _), (2, _), (3, _), (4, _), (5, _)]) E dX7_rowInOrder_52 rfl (by decide) rfl ?_
            refine zz_goto (pc := 55) (tgt := 10) E dX7_rowInOrder_55 (by decide) ?_
            exact zz_to (ih (k + 1) (row + ((left - 1) % n + 1) * unit) (unit * 10) ((left - 1) / n) (by omega) (Nat.lt_of_le_of_lt (Nat.div_le_self _ _) (by omega)) (by rw [← hz, zrof, if_neg (by omega)]; grind)) ⟨rfl, rfl, rfl, rfl, rfl, rfl, trivial⟩
  exact zz_to (key 9 0 0 1 v (by omega) hv (by show 0 + 1 * zro v n = zro v n; omega)) ⟨rfl, rfl, rfl, rfl, rfl, rfl, trivial⟩

set_option maxHeartbeats 4000000 in
set_option maxRecDepth 100000 in
theorem kkX7_firstUnit (l : Launch) (G : zz_C) (hJ : zz_J G) (M : zz_M) (a : Nat) (ha : a < 2 ^ 31) : Met l yX7_firstUnit wsX7_firstUnit ({ frames := 0, cells := 0, slots := 0, locals := 0 } : Room) (zz_P G M [.int (nI a)]) (zz_Qi G (fun r M1 => M1 = M ∧ r = nI (zfu a))) 0 0 (zz_A G) := by
  refine zz_start hJ (by decide) rfl (Nat.le_of_ble_eq_true rfl) ?_
  intro p e s m below meth c E hr hlk
  have hts := E.2.2.2.2.1
  show zz_Z p l e (headSpec wsX7_firstUnit ({ frames := 0, cells := 0, slots := 0, locals := 0 } : Room)).room s m ([.int (nI a)] : List Value).toArray below meth c 0 0 (MQ below (zz_Qi G (fun r M1 => M1 = M ∧ r = nI (zfu a))) ([.int (nI a)] : List Value).toArray s 0 0 (zz_A G)) 1 G (zz_A G) M 0 [(0, .int (nI a))] []
  refine zz_iload_n (pc := 0) E dX7_firstUnit_0 rfl ?_
  refine zz_bipush (pc := 1) (v := nI 100) E dX7_firstUnit_1 (by decide) ?_
  refine zn_icmp_lt (pc := 3) (tgt := 9) E dX7_firstUnit_3 (by decide) (by omega) (by omega) (fun h3 => ?_) (fun h3 => ?_)
  · refine zz_iload_n (pc := 9) E dX7_firstUnit_9 rfl ?_
    refine zz_bipush (pc := 10) (v := nI 10) E dX7_firstUnit_10 (by decide) ?_
    refine zn_icmp_lt (pc := 12) (tgt := 20) E dX7_firstUnit_12 (by decide) (by omega) (by omega) (fun h12 => ?_) (fun h12 => ?_)
    · refine zz_iconst (pc := 20) (v := nI 1) E dX7_firstUnit_20 (by decide) ?_
      exact zz_iret (pc := 21) E hr hlk dX7_firstUnit_21 ⟨rfl, by unfold zfu; first | rw [if_neg (by omega), if_pos (by omega)] | rw [if_neg (by omega), if_neg (by omega)]⟩
    · refine zz_bipush (pc := 15) (v := nI 10) E dX7_firstUnit_15 (by decide) ?_
      refine zz_goto (pc := 17) (tgt := 21) E dX7_firstUnit_17 (by decide) ?_
      exact zz_iret (pc := 21) E hr hlk dX7_firstUnit_21 ⟨rfl, by unfold zfu; first | rw [if_neg (by omega), if_pos (by omega)] | rw [if_neg (by omega), if_neg (by omega)]⟩
  · refine zz_bipush (pc := 6) (v := nI 100) E dX7_firstUnit_6 (by decide) ?_
    exact zz_iret (pc := 8) E hr hlk dX7_firstUnit_8 ⟨rfl, by unfold zfu; rw [if_pos h3]⟩
end
section
/-! frames, rows, tables in memory -/
def zfr (ks : List Nat) (M M1 : zz_M) : Prop := ∀ j, j ∉ ks → M1 j = M j
theorem zfr_rf (ks : List Nat) (M : zz_M) : zfr ks M M := fun _ _ => rfl
theorem zfr_up {ks : List Nat} {M M1 : zz_M} {k : Nat} {f : Nat → Int32} (h : zfr ks M M1) (hk : k ∈ ks) : zfr ks M (zz_up M1 k f) := fun j hj => by
  have hne : j ≠ k := fun e => hj (by rw [e]; exact hk)
  rw [zz_up_ne _ _ hne]
  exact h j hj
theorem zfr_tr {k1 k2 : List Nat} {M M1 M2 : zz_M} (h1 : zfr k1 M M1) (h2 : zfr k2 M1 M2) (hs : ∀ j ∈ k1, j ∈ k2) : zfr k2 M M2 := fun j hj => by
  rw [h2 j hj, h1 j (fun q => hj (hs j q))]
theorem zfr_mono {k1 k2 : List Nat} {M M1 : zz_M} (h : zfr k1 M M1) (hs : ∀ j ∈ k1, j ∈ k2) : zfr k2 M M1 := fun j hj => h j (fun q => hj (hs j q))
theorem upd_same (f : Nat → Int32) (k : Nat) (x : Int32) : upd f k x k = x := if_pos rfl
theorem upd_ne (f : Nat → Int32) {k j : Nat} (x : Int32) (h : j ≠ k) : upd f k x j = f j := if_neg h
/-- f holds the list, its head the last -/
def zS (f : Nat → Int32) : List Nat → Prop
  | [] => True
  | x :: L => f L.length = nI x ∧ zS f L
theorem zS_congr {f g : Nat → Int32} : ∀ {L : List Nat}, zS f L → (∀ i, i < L.length → g i = f i) → zS g L
  | [], _, _ => trivial
  | x :: L, h, hg => ⟨by rw [hg L.length (by simp)]; exact h.1, zS_congr h.2 (fun i hi => hg i (by simp; omega))⟩
theorem zS_push {f : Nat → Int32} {L : List Nat} {x : Nat} (h : zS f L) : zS (upd f L.length (nI x)) (x :: L) := ⟨upd_same _ _ _, zS_congr h (fun i hi => upd_ne _ _ (by omega))⟩
theorem zS_cpy {f g : Nat → Int32} {L : List Nat} (hg : zS g L) : ∀ {L2 : List Nat} {n : Nat}, zS f L2 → L2.length ≤ n → zS (va_cpy f g 0 L.length n) (L2 ++ L)
  | [], n, _, _ => zS_congr hg (fun i hi => by have hi : i < L.length := hi; unfold va_cpy; rw [if_neg (by omega)])
  | x :: L2, n, h, hn => by
    rw [List.length_cons] at hn
    refine ⟨?_, zS_cpy hg h.2 (by omega)⟩
    show va_cpy f g 0 L.length n (L2 ++ L).length = nI x
    unfold va_cpy
    rw [List.length_append, if_pos (by omega), show 0 + (L2.length + L.length - L.length) = L2.length by omega]
    exact h.1
theorem zS_at {f : Nat → Int32} : ∀ {L : List Nat} {i : Nat}, zS f L → i < L.length → f (L.length - 1 - i) = zo (L[i]?)
  | x :: L, 0, h, _ => by
    rw [List.length_cons, show L.length + 1 - 1 - 0 = L.length by omega]
    exact h.1
  | x :: L, i + 1, h, hi => by
    rw [List.length_cons] at hi ⊢
    rw [show L.length + 1 - 1 - (i + 1) = L.length - 1 - i by omega, List.getElem?_cons_succ]
    exact zS_at h.2 (by omega)
theorem zS_rev {f : Nat → Int32} {L : List Nat} {i : Nat} (h : zS f L) (hi : i < L.length) : f i = zo (L.reverse[i]?) := by
  have e := zS_at (i := L.length - 1 - i) h (by omega)
  rw [show L.length - 1 - (L.length - 1 - i) = i by omega] at e
  rw [e, List.getElem?_reverse hi]
def zrow (M : zz_M) (k cap : Nat) (L : List Nat) : Prop := M k 0 = nI L.length ∧ L.length ≤ cap ∧ zS (M (k + 1)) L ∧ ∀ x ∈ L, x < 10
theorem zrow_congr {M M1 : zz_M} {k cap : Nat} {L : List Nat} (h : zrow M k cap L) (h1 : M1 k = M k) (h2 : M1 (k + 1) = M (k + 1)) : zrow M1 k cap L := ⟨by rw [h1]; exact h.1, h.2.1, by rw [h2]; exact h.2.2.1, h.2.2.2⟩
theorem zrow_fr {ks : List Nat} {M M1 : zz_M} {k cap : Nat} {L : List Nat} (h : zrow M k cap L) (hf : zfr ks M M1) (h1 : k ∉ ks) (h2 : k + 1 ∉ ks) : zrow M1 k cap L := zrow_congr h (hf k h1) (hf _ h2)
theorem zo_lt {o : Option Nat} {a b : Nat} (ha : a < 2 ^ 31) (hb : b < 2 ^ 31) : zo (some a) = zo (some b) ↔ a = b := nI_eq ha hb
theorem zrow_ff {i : Nat} {L : List Nat} (hi : i < 2 ^ 31) (hl : L.length < 2 ^ 31) : (if zp_in (nI L.length - nI 1 - nI i) L.length then zo (L.reverse[(nI L.length - nI 1 - nI i).toInt.toNat]?) else -9) = zo (L[i]?) := by
  by_cases h : i < L.length
  · rw [zn_sub (by omega), zn_sub (by omega), zp_in_nI (by omega), decide_eq_true (by omega), if_pos rfl, nI_toInt (by omega), Int.toNat_natCast, List.getElem?_reverse (by omega), show L.length - 1 - (L.length - 1 - i) = i by omega]
  · have hx : nI L.length - nI 1 - nI i < 0 := by
      have e1 : nI L.length - nI 1 - nI i = Int32.ofInt ((L.length : Int) - 1 - i) := by
        rw [show nI L.length = Int32.ofInt (L.length : Int) from rfl, show nI 1 = Int32.ofInt ((1 : Nat) : Int) from rfl, show nI i = Int32.ofInt (i : Int) from rfl, ← Int32.ofInt_sub, ← Int32.ofInt_sub]
        rfl
      rw [e1, Int32.lt_iff_toInt_lt, Int32.toInt_ofInt_of_le (by omega) (by omega)]
      show _ < (0 : Int)
      omega
    rw [zp_in_f1 hx, show L[i]? = none from List.getElem?_eq_none (by omega)]
    rfl
theorem zrow_mx {L : List Nat} (hl : L.length < 2 ^ 31) : (if nI L.length - nI 1 < nI 0 then nI 0 else nI L.length - nI 1) = nI L.tail.length := by
  cases L with
  | nil => decide
  | cons x L =>
    rw [List.length_cons] at hl ⊢
    rw [zn_sub (by omega), if_neg (nI_nlt (by omega) (by omega))]
    rfl
theorem zS_tail {f : Nat → Int32} {L : List Nat} (h : zS f L) : zS f L.tail := by
  cases L with
  | nil => exact h
  | cons x L => exact h.2
theorem zd_len0 {b : Nat} (h : (zd b).length = 0) (hb : b < 2 ^ 63) : b = 0 := by
  rcases Nat.eq_zero_or_pos b with h0 | h0
  · exact h0
  · rw [zd_pos h0 hb] at h; cases h
theorem zmin_ok {a b : Nat} (ha : a < 2 ^ 31) (hb : b < 2 ^ 31) : (if nI b < nI a then nI b else nI a) = nI (min a b) := by
  by_cases h : b < a
  · rw [if_pos ((nI_ltI hb ha).mpr h), Nat.min_eq_right (by omega)]
  · rw [if_neg (fun q => h ((nI_ltI hb ha).mp q)), Nat.min_eq_left (by omega)]
/-- how many are alike from the first on -/
def zcp : List Nat → List Nat → Nat
  | x :: L, y :: K => if x = y then zcp L K + 1 else 0
  | _, _ => 0
theorem zcp_le : ∀ (L K : List Nat), zcp L K ≤ L.length ∧ zcp L K ≤ K.length
  | [], K => ⟨Nat.le_refl _, Nat.zero_le _⟩
  | x :: L, [] => ⟨Nat.zero_le _, Nat.le_refl _⟩
  | x :: L, y :: K => by
    rw [zcp]
    have h := zcp_le L K
    by_cases e : x = y
    · rw [if_pos e, List.length_cons, List.length_cons]; omega
    · rw [if_neg e]; exact ⟨Nat.zero_le _, Nat.zero_le _⟩
/-- from place i on -/
theorem zcp_drop {L K : List Nat} : ∀ {i : Nat} {a b : Nat}, L[i]? = some a → K[i]? = some b → zcp (L.drop i) (K.drop i) = if a = b then zcp (L.drop (i + 1)) (K.drop (i + 1)) + 1 else 0 := by
  intro i a b ha hb
  have hl := (List.getElem?_eq_some_iff.mp ha)
  have hk := (List.getElem?_eq_some_iff.mp hb)
  obtain ⟨h1, rfl⟩ := hl
  obtain ⟨h2, rfl⟩ := hk
  rw [List.drop_eq_getElem_cons h1, List.drop_eq_getElem_cons h2, zcp]
theorem zcp_end {L K : List Nat} {i : Nat} (h : L.length ≤ i ∨ K.length ≤ i) : zcp (L.drop i) (K.drop i) = 0 := by
  rcases h with h | h
  · rw [List.drop_eq_nil_of_le h]; rfl
  · rw [List.drop_eq_nil_of_le h]
    cases L.drop i <;> rfl
theorem zcp_all : ∀ {L K : List Nat}, L.length = K.length → (zcp L K = L.length ↔ L = K)
  | [], [], _ => by simp [zcp]
  | [], y :: K, h => by simp at h
  | x :: L, [], h => by simp at h
  | x :: L, y :: K, h => by
    rw [zcp, List.length_cons]
    by_cases e : x = y
    · rw [if_pos e]
      have := zcp_all (L := L) (K := K) (by simpa using h)
      simp [e, this]
    · rw [if_neg e]
      simp [e]

theorem zsame_ok {L K : List Nat} (h : L.length = K.length) (h2 : zcp L.reverse K.reverse = L.length) : L = K := by
  have := (zcp_all (L := L.reverse) (K := K.reverse) (by simpa using h)).mp (by rw [h2, List.length_reverse])
  simpa using congrArg List.reverse this

theorem inX5_clear_X5 : ∀ w ∈ u_ws RX5 TX5 2, w ∈ wsX5_clear := by decide +kernel
theorem lkX5_clear_21 : Cond.fieldLink RX5 21 RX5 "length" "I" ∈ wsX5_clear := by decide +kernel
set_option maxHeartbeats 4000000 in
set_option maxRecDepth 100000 in
theorem kkX5_clear (l : Launch) (G : zz_C) (hJ : zz_J G) (M : zz_M) (k cap : Nat) (hk : zz_R k cap) : Met l yX5_clear wsX5_clear ({ frames := 0, cells := 0, slots := 0, locals := 0 } : Room) (zz_P G M [.ref (G.2.2 k)]) (zz_Qv G (fun M1 => zfr [k, k + 1] M M1 ∧ zrow M1 k cap [])) 0 0 (zz_A G) := by
  refine zz_start hJ (by decide) rfl (Nat.le_of_ble_eq_true rfl) ?_
  intro p e s m below meth c E hr hlk
  have hts := E.2.2.2.2.1
  show zz_Z p l e (headSpec wsX5_clear ({ frames := 0, cells := 0, slots := 0, locals := 0 } : Room)).room s m ([.ref (G.2.2 k)] : List Value).toArray below meth c 0 0 (MQ below (zz_Qv G (fun M1 => zfr [k, k + 1] M M1 ∧ zrow M1 k cap [])) ([.ref (G.2.2 k)] : List Value).toArray s 0 0 (zz_A G)) 1 G (zz_A G) M 0 [(0, .ref (G.2.2 k))] []
  refine zz_aload_n (pc := 0) E dX5_clear_0 rfl ?_
  refine zz_iconst (pc := 1) (v := nI 0) E dX5_clear_1 (by decide) ?_
  refine zz_pfj (pc := 2) E k 0 (by have := hk.2.2.1; omega) (zz_F_row hk.1 hk.2.1) rfl inX5_clear_X5 tyX5 tyX5_ok nmX5 1 (by decide) lkX5_clear_21 (fun _ h => h) rfl rfl (Nat.le_of_ble_eq_true rfl) (zz_F_row hk.1 hk.2.1) dX5_clear_2 ?_
  exact zz_vret (pc := 5) E hr hlk dX5_clear_5 ⟨zfr_up (zfr_rf _ _) (by simp), by rw [zz_up_same]; rfl, Nat.zero_le _, trivial, fun _ h => by cases h⟩

theorem inX5_size_X5 : ∀ w ∈ u_ws RX5 TX5 2, w ∈ wsX5_size := by decide +kernel
theorem lkX5_size_21 : Cond.fieldLink RX5 21 RX5 "length" "I" ∈ wsX5_size := by decide +kernel
set_option maxHeartbeats 4000000 in
set_option maxRecDepth 100000 in
theorem kkX5_size (l : Launch) (G : zz_C) (hJ : zz_J G) (M : zz_M) (k cap : Nat) (hk : zz_R k cap) : Met l yX5_size wsX5_size ({ frames := 0, cells := 0, slots := 0, locals := 0 } : Room) (zz_P G M [.ref (G.2.2 k)]) (zz_Qi G (fun r M1 => M1 = M ∧ r = M k 0)) 0 0 (zz_A G) := by
  refine zz_start hJ (by decide) rfl (Nat.le_of_ble_eq_true rfl) ?_
  intro p e s m below meth c E hr hlk
  have hts := E.2.2.2.2.1
  show zz_Z p l e (headSpec wsX5_size ({ frames := 0, cells := 0, slots := 0, locals := 0 } : Room)).room s m ([.ref (G.2.2 k)] : List Value).toArray below meth c 0 0 (MQ below (zz_Qi G (fun r M1 => M1 = M ∧ r = M k 0)) ([.ref (G.2.2 k)] : List Value).toArray s 0 0 (zz_A G)) 1 G (zz_A G) M 0 [(0, .ref (G.2.2 k))] []
  refine zz_aload_n (pc := 0) E dX5_size_0 rfl ?_
  refine zz_gf (pc := 1) E k (by have := hk.2.2.1; omega) (zz_F_row hk.1 hk.2.1) rfl inX5_size_X5 1 (by decide) lkX5_size_21 (fun _ h => h) rfl dX5_size_1 ?_
  exact zz_iret (pc := 4) E hr hlk dX5_size_4 ⟨rfl, rfl⟩

theorem inX5_fromLast_X5 : ∀ w ∈ u_ws RX5 TX5 2, w ∈ wsX5_fromLast := by decide +kernel
theorem lkX5_fromLast_21 : Cond.fieldLink RX5 21 RX5 "length" "I" ∈ wsX5_fromLast := by decide +kernel
theorem lkX5_fromLast_15 : Cond.fieldLink RX5 15 RX5 "signs" "[I" ∈ wsX5_fromLast := by decide +kernel
set_option maxHeartbeats 4000000 in
set_option maxRecDepth 100000 in
theorem kkX5_fromLast (l : Launch) (G : zz_C) (hJ : zz_J G) (M : zz_M) (k cap : Nat) (hk : zz_R k cap) (x : Int32) (L : List Nat) (hL : zrow M k cap L) : Met l yX5_fromLast wsX5_fromLast ({ frames := 0, cells := 0, slots := 0, locals := 0 } : Room) (zz_P G M [.ref (G.2.2 k), .int x]) (zz_Qi G (fun r M1 => M1 = M ∧ r = if zp_in x L.length then zo (L.reverse[x.toInt.toNat]?) else -9)) 0 0 (zz_A G) := by
  refine zz_start hJ (by decide) rfl (Nat.le_of_ble_eq_true rfl) ?_
  intro p e s m below meth c E hr hlk
  have hts := E.2.2.2.2.1
  show zz_Z p l e (headSpec wsX5_fromLast ({ frames := 0, cells := 0, slots := 0, locals := 0 } : Room)).room s m ([.ref (G.2.2 k), .int x] : List Value).toArray below meth c 0 0 (MQ below (zz_Qi G (fun r M1 => M1 = M ∧ r = if zp_in x L.length then zo (L.reverse[x.toInt.toNat]?) else -9)) ([.ref (G.2.2 k), .int x] : List Value).toArray s 0 0 (zz_A G)) 2 G (zz_A G) M 0 [(0, .ref (G.2.2 k)), (1, .int x)] []
  refine zz_iload_n (pc := 0) E dX5_fromLast_0 rfl ?_
  refine zz_if_lt (pc := 1) (tgt := 21) E dX5_fromLast_1 (by decide) (fun h1 => ?_) (fun h1 => ?_)
  · refine zz_bipush (pc := 21) (v := -9) E dX5_fromLast_21 (by decide) ?_
    refine zz_goto (pc := 23) (tgt := 32) E dX5_fromLast_23 (by decide) ?_
    exact zz_iret (pc := 32) E hr hlk dX5_fromLast_32 ⟨rfl, by first | (rw [zp_in_f1 h1]; rfl) | (rw [zp_in_f2 h9 (by have := hL.2.1; have := hk.2.2.2.1; omega)]; rfl) | (rw [hxi, zp_in_nI (by omega), decide_eq_true hi, nI_toInt (by omega)]; exact zS_rev hL.2.2.1 hi)⟩
  · refine zz_iload_n (pc := 4) E dX5_fromLast_4 rfl ?_
    refine zz_aload_n (pc := 5) E dX5_fromLast_5 rfl ?_
    refine zz_gf (pc := 6) E k (by have := hk.2.2.1; omega) (zz_F_row hk.1 hk.2.1) rfl inX5_fromLast_X5 1 (by decide) lkX5_fromLast_21 (fun _ h => h) rfl dX5_fromLast_6 ?_
    refine zz_eqi (y := nI L.length) hL.1 ?_
    refine zz_icmp_ge (pc := 9) (tgt := 21) E dX5_fromLast_9 (by decide) (fun h9 => ?_) (fun h9 => ?_)
    · refine zz_bipush (pc := 21) (v := -9) E dX5_fromLast_21 (by decide) ?_
      refine zz_goto (pc := 23) (tgt := 32) E dX5_fromLast_23 (by decide) ?_
      exact zz_iret (pc := 32) E hr hlk dX5_fromLast_32 ⟨rfl, by first | (rw [zp_in_f1 h1]; rfl) | (rw [zp_in_f2 h9 (by have := hL.2.1; have := hk.2.2.2.1; omega)]; rfl) | (rw [hxi, zp_in_nI (by omega), decide_eq_true hi, nI_toInt (by omega)]; exact zS_rev hL.2.2.1 hi)⟩
    · obtain ⟨i, hi, hxi⟩ := zp_in_of (zp_in_t h1 h9 (by have := hL.2.1; have := hk.2.2.2.1; omega)) (by have := hL.2.1; have := hk.2.2.2.1; omega)
      have hcap := hL.2.1
      have hb := hk.2.2.2.1
      refine zz_iload_n (pc := 12) E dX5_fromLast_12 rfl ?_
      refine zz_eqi (y := nI i) hxi ?_
      refine zz_aload_n (pc := 13) E dX5_fromLast_13 rfl ?_
      refine zz_gf (pc := 14) E k (by have := hk.2.2.1; omega) (zz_F_row hk.1 hk.2.1) rfl inX5_fromLast_X5 0 (by decide) lkX5_fromLast_15 (fun _ h => h) rfl dX5_fromLast_14 ?_
      refine zz_alen (pc := 17) E (k + 1) (n := cap) hk.2.2.1 (hk.2.2.2.2 G _) dX5_fromLast_17 ?_
      refine zn_icmp_lt (pc := 18) (tgt := 26) E dX5_fromLast_18 (by decide) (by omega) (by omega) (fun h18 => ?_) (fun h18 => ?_)
      · refine zz_aload_n (pc := 26) E dX5_fromLast_26 rfl ?_
        refine zz_gf (pc := 27) E k (by have := hk.2.2.1; omega) (zz_F_row hk.1 hk.2.1) rfl inX5_fromLast_X5 0 (by decide) lkX5_fromLast_15 (fun _ h => h) rfl dX5_fromLast_27 ?_
        refine zz_iload_n (pc := 30) E dX5_fromLast_30 rfl ?_
        refine zz_eqi (y := nI i) hxi ?_
        refine zz_iald (pc := 31) E (k + 1) (_) (n := cap) hk.2.2.1 (hk.2.2.2.2 G _) rfl (by omega) hk.2.2.2.1 dX5_fromLast_31 ?_
        exact zz_iret (pc := 32) E hr hlk dX5_fromLast_32 ⟨rfl, by first | (rw [zp_in_f1 h1]; rfl) | (rw [zp_in_f2 h9 (by have := hL.2.1; have := hk.2.2.2.1; omega)]; rfl) | (rw [hxi, zp_in_nI (by omega), decide_eq_true hi, nI_toInt (by omega)]; exact zS_rev hL.2.2.1 hi)⟩
      · exact absurd h18 (by omega)

theorem inX5_fromFirst_X5 : ∀ w ∈ u_ws RX5 TX5 2, w ∈ wsX5_fromFirst := by decide +kernel
theorem lkX5_fromFirst_21 : Cond.fieldLink RX5 21 RX5 "length" "I" ∈ wsX5_fromFirst := by decide +kernel
set_option maxHeartbeats 4000000 in
set_option maxRecDepth 100000 in
theorem kkX5_fromFirst (l : Launch) (G : zz_C) (hJ : zz_J G) (M : zz_M) (k cap : Nat) (hk : zz_R k cap) (i : Nat) (L : List Nat) (hL : zrow M k cap L) (hi : i < 2 ^ 31) : Met l yX5_fromFirst wsX5_fromFirst ({ frames := 1, cells := 0, slots := 0, locals := 21 } : Room) (zz_P G M [.ref (G.2.2 k), .int (nI i)]) (zz_Qi G (fun r M1 => M1 = M ∧ r = zo (L[i]?))) 0 0 (zz_A G) := by
  refine zz_start hJ (by decide) rfl (Nat.le_of_ble_eq_true rfl) ?_
  intro p e s m below meth c E hr hlk
  have hts := E.2.2.2.2.1
  show zz_Z p l e (headSpec wsX5_fromFirst ({ frames := 1, cells := 0, slots := 0, locals := 21 } : Room)).room s m ([.ref (G.2.2 k), .int (nI i)] : List Value).toArray below meth c 0 0 (MQ below (zz_Qi G (fun r M1 => M1 = M ∧ r = zo (L[i]?))) ([.ref (G.2.2 k), .int (nI i)] : List Value).toArray s 0 0 (zz_A G)) 2 G (zz_A G) M 0 [(0, .ref (G.2.2 k)), (1, .int (nI i))] []
  refine zz_aload_n (pc := 0) E dX5_fromFirst_0 rfl ?_
  refine zz_aload_n (pc := 1) E dX5_fromFirst_1 rfl ?_
  refine zz_gf (pc := 2) E k (by have := hk.2.2.1; omega) (zz_F_row hk.1 hk.2.1) rfl inX5_fromFirst_X5 1 (by decide) lkX5_fromFirst_21 (fun _ h => h) rfl dX5_fromFirst_2 ?_
  refine zz_eqi (y := nI L.length) hL.1 ?_
  refine zz_iconst (pc := 5) (v := nI 1) E dX5_fromFirst_5 (by decide) ?_
  refine zz_isub (pc := 6) E dX5_fromFirst_6 ?_
  refine zz_iload_n (pc := 7) E dX5_fromFirst_7 rfl ?_
  refine zz_isub (pc := 8) E dX5_fromFirst_8 ?_
  refine zz_ciV (pc := 9) E k (kkX5_fromLast l G hJ _ _ _ hk _ L hL) (cwV 1 hts gX5_fromFirst_X5_fromLast rfl rfl rfl (by decide +kernel) ⟨Nat.le_of_ble_eq_true rfl, Nat.le_of_ble_eq_true rfl⟩) (by have := hk.2.2.1; omega) (zz_F_row hk.1 hk.2.1) rfl rfl rfl (Nat.le_of_ble_eq_true rfl) dX5_fromFirst_9 (fun r9 M9 q9 => ?_)
  obtain ⟨rfl, rfl⟩ := q9
  exact zz_iret (pc := 12) E hr hlk dX5_fromFirst_12 ⟨rfl, zrow_ff hi (by have := hL.2.1; have := hk.2.2.2.1; omega)⟩

theorem inX5_dropFirst_X5 : ∀ w ∈ u_ws RX5 TX5 2, w ∈ wsX5_dropFirst := by decide +kernel
theorem lkX5_dropFirst_21 : Cond.fieldLink RX5 21 RX5 "length" "I" ∈ wsX5_dropFirst := by decide +kernel
theorem mmX5_dropFirst_9_ml : Cond.methodLink RX5 9 Lib.Math.max.name ∈ wsX5_dropFirst := by decide +kernel
theorem mmX5_dropFirst_9_st : Cond.static Lib.Math.max.name ∈ wsX5_dropFirst := by decide +kernel
theorem mmX5_dropFirst_9_in : Cond.initialized "java/lang/Math" ∈ wsX5_dropFirst := by decide +kernel
theorem mmX5_dropFirst_9_co : Cond.code Lib.Math.max.name Lib.Math.max.code 2 (some .int) ∈ wsX5_dropFirst := by decide +kernel
set_option maxHeartbeats 4000000 in
set_option maxRecDepth 100000 in
theorem kkX5_dropFirst (l : Launch) (G : zz_C) (hJ : zz_J G) (M : zz_M) (k cap : Nat) (hk : zz_R k cap) (L : List Nat) (hL : zrow M k cap L) : Met l yX5_dropFirst wsX5_dropFirst ({ frames := 1, cells := 0, slots := 0, locals := 21 } : Room) (zz_P G M [.ref (G.2.2 k)]) (zz_Qv G (fun M1 => zfr [k, k + 1] M M1 ∧ zrow M1 k cap L.tail)) 0 0 (zz_A G) := by
  refine zz_start hJ (by decide) rfl (Nat.le_of_ble_eq_true rfl) ?_
  intro p e s m below meth c E hr hlk
  have hts := E.2.2.2.2.1
  show zz_Z p l e (headSpec wsX5_dropFirst ({ frames := 1, cells := 0, slots := 0, locals := 21 } : Room)).room s m ([.ref (G.2.2 k)] : List Value).toArray below meth c 0 0 (MQ below (zz_Qv G (fun M1 => zfr [k, k + 1] M M1 ∧ zrow M1 k cap L.tail)) ([.ref (G.2.2 k)] : List Value).toArray s 0 0 (zz_A G)) 1 G (zz_A G) M 0 [(0, .ref (G.2.2 k))] []
  refine zz_aload_n (pc := 0) E dX5_dropFirst_0 rfl ?_
  refine zz_aload_n (pc := 1) E dX5_dropFirst_1 rfl ?_
  refine zz_gf (pc := 2) E k (by have := hk.2.2.1; omega) (zz_F_row hk.1 hk.2.1) rfl inX5_dropFirst_X5 1 (by decide) lkX5_dropFirst_21 (fun _ h => h) rfl dX5_dropFirst_2 ?_
  refine zz_eqi (y := nI L.length) hL.1 ?_
  refine zz_iconst (pc := 5) (v := nI 1) E dX5_dropFirst_5 (by decide) ?_
  refine zz_isub (pc := 6) E dX5_dropFirst_6 ?_
  refine zz_iconst (pc := 7) (v := nI 0) E dX5_dropFirst_7 (by decide) ?_
  refine zz_max (rest := []) (pc := 8) E mmX5_dropFirst_9_ml mmX5_dropFirst_9_st mmX5_dropFirst_9_in mmX5_dropFirst_9_co (by decide) (Nat.le_of_ble_eq_true rfl) dX5_dropFirst_8 ?_
  refine zz_eqi (y := nI L.tail.length) (zrow_mx (by have := hL.2.1; have := hk.2.2.2.1; omega)) ?_
  refine zz_pfj (pc := 11) E k 0 (by have := hk.2.2.1; omega) (zz_F_row hk.1 hk.2.1) rfl inX5_dropFirst_X5 tyX5 tyX5_ok nmX5 1 (by decide) lkX5_dropFirst_21 (fun _ h => h) rfl rfl (Nat.le_of_ble_eq_true rfl) (zz_F_row hk.1 hk.2.1) dX5_dropFirst_11 ?_
  exact zz_vret (pc := 14) E hr hlk dX5_dropFirst_14 ⟨zfr_up (zfr_rf _ _) (by simp), by rw [zz_up_same]; rfl, by have := hL.2.1; rw [List.length_tail]; omega, zS_tail (by rw [zz_up_ne _ _ (by omega)]; exact hL.2.2.1), fun x h => hL.2.2.2 x (List.mem_of_mem_tail h)⟩

theorem inX5_putFirst_X5 : ∀ w ∈ u_ws RX5 TX5 2, w ∈ wsX5_putFirst := by decide +kernel
theorem lkX5_putFirst_21 : Cond.fieldLink RX5 21 RX5 "length" "I" ∈ wsX5_putFirst := by decide +kernel
theorem lkX5_putFirst_15 : Cond.fieldLink RX5 15 RX5 "signs" "[I" ∈ wsX5_putFirst := by decide +kernel
set_option maxHeartbeats 4000000 in
set_option maxRecDepth 100000 in
theorem kkX5_putFirst (l : Launch) (G : zz_C) (hJ : zz_J G) (M : zz_M) (k cap : Nat) (hk : zz_R k cap) (a : Nat) (L : List Nat) (hL : zrow M k cap L) (hc : L.length < cap) (ha : a < 10) : Met l yX5_putFirst wsX5_putFirst ({ frames := 0, cells := 0, slots := 0, locals := 0 } : Room) (zz_P G M [.ref (G.2.2 k), .int (nI a)]) (zz_Qv G (fun M1 => zfr [k, k + 1] M M1 ∧ zrow M1 k cap (a :: L))) 0 0 (zz_A G) := by
  refine zz_start hJ (by decide) rfl (Nat.le_of_ble_eq_true rfl) ?_
  intro p e s m below meth c E hr hlk
  have hts := E.2.2.2.2.1
  show zz_Z p l e (headSpec wsX5_putFirst ({ frames := 0, cells := 0, slots := 0, locals := 0 } : Room)).room s m ([.ref (G.2.2 k), .int (nI a)] : List Value).toArray below meth c 0 0 (MQ below (zz_Qv G (fun M1 => zfr [k, k + 1] M M1 ∧ zrow M1 k cap (a :: L))) ([.ref (G.2.2 k), .int (nI a)] : List Value).toArray s 0 0 (zz_A G)) 2 G (zz_A G) M 0 [(0, .ref (G.2.2 k)), (1, .int (nI a))] []
  have hb := hk.2.2.2.1
  refine zz_aload_n (pc := 0) E dX5_putFirst_0 rfl ?_
  refine zz_gf (pc := 1) E k (by have := hk.2.2.1; omega) (zz_F_row hk.1 hk.2.1) rfl inX5_putFirst_X5 1 (by decide) lkX5_putFirst_21 (fun _ h => h) rfl dX5_putFirst_1 ?_
  refine zz_eqi (y := nI L.length) hL.1 ?_
  refine zz_aload_n (pc := 4) E dX5_putFirst_4 rfl ?_
  refine zz_gf (pc := 5) E k (by have := hk.2.2.1; omega) (zz_F_row hk.1 hk.2.1) rfl inX5_putFirst_X5 0 (by decide) lkX5_putFirst_15 (fun _ h => h) rfl dX5_putFirst_5 ?_
  refine zz_alen (pc := 8) E (k + 1) (n := cap) hk.2.2.1 (hk.2.2.2.2 G _) dX5_putFirst_8 ?_
  refine zn_icmp_ge (pc := 9) (tgt := 32) E dX5_putFirst_9 (by decide) (by omega) (by omega) (fun h9 => ?_) (fun h9 => ?_)
  · exact absurd h9 (by omega)
  · refine zz_aload_n (pc := 12) E dX5_putFirst_12 rfl ?_
    refine zz_gf (pc := 13) E k (by have := hk.2.2.1; omega) (zz_F_row hk.1 hk.2.1) rfl inX5_putFirst_X5 0 (by decide) lkX5_putFirst_15 (fun _ h => h) rfl dX5_putFirst_13 ?_
    refine zz_aload_n (pc := 16) E dX5_putFirst_16 rfl ?_
    refine zz_gf (pc := 17) E k (by have := hk.2.2.1; omega) (zz_F_row hk.1 hk.2.1) rfl inX5_putFirst_X5 1 (by decide) lkX5_putFirst_21 (fun _ h => h) rfl dX5_putFirst_17 ?_
    refine zz_eqi (y := nI L.length) hL.1 ?_
    refine zz_iload_n (pc := 20) E dX5_putFirst_20 rfl ?_
    refine zz_iast (pc := 21) E (k + 1) (_) (n := cap) hk.2.2.1 (hk.2.2.2.2 G) rfl (by omega) hk.2.2.2.1 dX5_putFirst_21 ?_
    refine zz_aload_n (pc := 22) E dX5_putFirst_22 rfl ?_
    refine zz_dup (pc := 23) E dX5_putFirst_23 rfl ?_
    refine zz_gf (pc := 24) E k (by have := hk.2.2.1; omega) (zz_F_row hk.1 hk.2.1) rfl inX5_putFirst_X5 1 (by decide) lkX5_putFirst_21 (fun _ h => h) rfl dX5_putFirst_24 ?_
    refine zz_eqi (y := nI L.length) (by rw [zz_up_ne _ _ (by omega)]; exact hL.1) ?_
    refine zz_iconst (pc := 27) (v := nI 1) E dX5_putFirst_27 (by decide) ?_
    refine zn_iadd (pc := 28) E dX5_putFirst_28 ?_
    refine zz_pfj (pc := 29) E k 0 (by have := hk.2.2.1; omega) (zz_F_row hk.1 hk.2.1) rfl inX5_putFirst_X5 tyX5 tyX5_ok nmX5 1 (by decide) lkX5_putFirst_21 (fun _ h => h) rfl rfl (Nat.le_of_ble_eq_true rfl) (zz_F_row hk.1 hk.2.1) dX5_putFirst_29 ?_
    exact zz_vret (pc := 32) E hr hlk dX5_putFirst_32 ⟨zfr_up (zfr_up (zfr_rf _ _) (by simp)) (by simp), by rw [zz_up_same]; rfl, hc, by rw [zz_up_ne _ _ (by omega), zz_up_same]; exact zS_push hL.2.2.1, fun x h => by rcases List.mem_cons.mp h with rfl | h; exact ha; exact hL.2.2.2 x h⟩

theorem clX5_putRowAhead_29 : Cond.constantLong RX5 29 (10) ∈ wsX5_putRowAhead := by decide +kernel
set_option maxHeartbeats 4000000 in
set_option maxRecDepth 100000 in
theorem kkX5_putRowAhead (l : Launch) (G : zz_C) (hJ : zz_J G) (M : zz_M) (k cap : Nat) (hk : zz_R k cap) (a kn : Nat) (L : List Nat) (hL : zrow M k cap L) (hz : zok a kn 20 = true) (ha : a < 2 ^ 63) (hc : (zd a).length + L.length ≤ cap) : Met l yX5_putRowAhead wsX5_putRowAhead ({ frames := 1, cells := 0, slots := 0, locals := 21 } : Room) (zz_P G M [.ref (G.2.2 k), .long (lN a)]) (zz_Qv G (fun M1 => zfr [k, k + 1] M M1 ∧ zrow M1 k cap (zr a ++ L))) 0 0 (zz_A G) := by
  refine zz_start hJ (by decide) rfl (Nat.le_of_ble_eq_true rfl) ?_
  intro p e s m below meth c E hr hlk
  have hts := E.2.2.2.2.1
  show zz_Z p l e (headSpec wsX5_putRowAhead ({ frames := 1, cells := 0, slots := 0, locals := 21 } : Room)).room s m ([.ref (G.2.2 k), .long (lN a)] : List Value).toArray below meth c 0 0 (MQ below (zz_Qv G (fun M1 => zfr [k, k + 1] M M1 ∧ zrow M1 k cap (zr a ++ L))) ([.ref (G.2.2 k), .long (lN a)] : List Value).toArray s 0 0 (zz_A G)) 5 G (zz_A G) M 0 [(0, .ref (G.2.2 k)), (1, .long (lN a))] []
  refine zz_lload_n (pc := 0) E dX5_putRowAhead_0 rfl ?_
  refine zz_lstore_n (pc := 1) (lv' := [(0, _), (1, _), (3, _)]) E dX5_putRowAhead_1 (by decide) rfl ?_
  have key : ∀ (j b : Nat) (M2 : zz_M) (K : List Nat), (zd b).length = j → b < 2 ^ 63 → zok b kn 20 = true → zfr [k, k + 1] M M2 → zrow M2 k cap K → j + K.length ≤ cap → zr a ++ L = zr b ++ K → zz_Z p l e (headSpec wsX5_putRowAhead ({ frames := 1, cells := 0, slots := 0, locals := 21 } : Room)).room s m ([.ref (G.2.2 k), .long (lN a)] : List Value).toArray below meth c 0 0 (MQ below (zz_Qv G (fun M1 => zfr [k, k + 1] M M1 ∧ zrow M1 k cap (zr a ++ L))) ([.ref (G.2.2 k), .long (lN a)] : List Value).toArray s 0 0 (zz_A G)) 5 G (zz_A G) M2 2 [(0, .ref (G.2.2 k)), (3, .long (lN b))] [] := by
    intro j
    induction j with
    | zero =>
      intro b M2 K hj hb hzb hf hw hc2 he
      have hb0 := zd_len0 hj hb
      subst hb0
      refine zz_lload_n (pc := 2) E dX5_putRowAhead_2 rfl ?_
      refine zz_lconst (pc := 3) (v := lN 0) E dX5_putRowAhead_3 rfl ?_
      refine zn_lcmp_le (pc := 4) (tgt := 29) E dX5_putRowAhead_4 dX5_putRowAhead_5 (by decide) (by omega) (by omega) (fun h5 => ?_) (fun h5 => ?_)
      · exact zz_vret (pc := 29) E hr hlk dX5_putRowAhead_29 ⟨hf, by rw [he, zr_0]; exact hw⟩
      · exact absurd h5 (by omega)
    | succ j ih =>
      intro b M2 K hj hb hzb hf hw hc2 he
      have h0 : 0 < b := by
        rcases Nat.eq_zero_or_pos b with h | h
        · rw [h] at hj; cases hj
        · exact h
      have hd := zok_digit hzb h0 hb
      rw [zd_pos h0 hb, List.length_cons] at hj
      refine zz_lload_n (pc := 2) E dX5_putRowAhead_2 rfl ?_
      refine zz_lconst (pc := 3) (v := lN 0) E dX5_putRowAhead_3 rfl ?_
      refine zn_lcmp_le (pc := 4) (tgt := 29) E dX5_putRowAhead_4 dX5_putRowAhead_5 (by decide) (by omega) (by omega) (fun h5 => ?_) (fun h5 => ?_)
      · exact absurd h5 (by omega)
      · refine zz_aload_n (pc := 8) E dX5_putRowAhead_8 rfl ?_
        refine zz_lload_n (pc := 9) E dX5_putRowAhead_9 rfl ?_
        refine zz_ldc2 (pc := 10) (v := lN 10) E clX5_putRowAhead_29 dX5_putRowAhead_10 ?_
        refine zn_lrem (pc := 13) E dX5_putRowAhead_13 (by omega) (by omega) (by omega) ?_
        refine zn_l2i (pc := 14) E dX5_putRowAhead_14 ?_
        refine zz_iconst (pc := 15) (v := nI 1) E dX5_putRowAhead_15 (by decide) ?_
        refine zn_isub (pc := 16) E dX5_putRowAhead_16 (by omega) ?_
        refine zz_cvV (pc := 17) E k (kkX5_putFirst l G hJ _ _ _ hk _ K hw (by omega) (by omega)) (cwV 1 hts gX5_putRowAhead_X5_putFirst rfl rfl rfl (by decide +kernel) ⟨Nat.le_of_ble_eq_true rfl, Nat.le_of_ble_eq_true rfl⟩) (by have := hk.2.2.1; omega) (zz_F_row hk.1 hk.2.1) rfl rfl rfl (Nat.le_of_ble_eq_true rfl) dX5_putRowAhead_17 (fun M17 q17 => ?_)
        obtain ⟨f17, w17⟩ := q17
        refine zz_lload_n (pc := 20) E dX5_putRowAhead_20 rfl ?_
        refine zz_ldc2 (pc := 21) (v := lN 10) E clX5_putRowAhead_29 dX5_putRowAhead_21 ?_
        refine zn_ldiv (pc := 24) E dX5_putRowAhead_24 (by omega) (by omega) (by omega) ?_
        refine zz_lstore_n (pc := 25) (lv' := [(0, _), (3, _)]) E dX5_putRowAhead_25 (by decide) rfl ?_
        refine zz_goto (pc := 26) (tgt := 2) E dX5_putRowAhead_26 (by decide) ?_
        exact zz_to (ih (b / 10) M17 ((b % 10 - 1) :: K) (by omega) (by omega) (zok_half hzb hb) (zfr_tr hf f17 (fun _ h => h)) w17 (by rw [List.length_cons]; omega) (by rw [he, zr_pos h0 hb]; simp)) ⟨rfl, rfl, trivial⟩
  exact zz_to (key _ a M L rfl ha hz (zfr_rf _ _) hL hc rfl) ⟨rfl, rfl, trivial⟩

theorem inX5_putAllAhead_X5 : ∀ w ∈ u_ws RX5 TX5 2, w ∈ wsX5_putAllAhead := by decide +kernel
theorem lkX5_putAllAhead_21 : Cond.fieldLink RX5 21 RX5 "length" "I" ∈ wsX5_putAllAhead := by decide +kernel
theorem lkX5_putAllAhead_15 : Cond.fieldLink RX5 15 RX5 "signs" "[I" ∈ wsX5_putAllAhead := by decide +kernel
theorem mmX5_putAllAhead_35_ml : Cond.methodLink RX5 35 arraycopyName ∈ wsX5_putAllAhead := by decide +kernel
theorem mmX5_putAllAhead_35_na : Cond.native arraycopyName ∈ wsX5_putAllAhead := by decide +kernel
theorem mmX5_putAllAhead_35_st : Cond.static arraycopyName ∈ wsX5_putAllAhead := by decide +kernel
theorem mmX5_putAllAhead_35_in : Cond.initialized "java/lang/System" ∈ wsX5_putAllAhead := by decide +kernel
set_option maxHeartbeats 4000000 in
set_option maxRecDepth 100000 in
theorem kkX5_putAllAhead (l : Launch) (G : zz_C) (hJ : zz_J G) (M : zz_M) (k cap : Nat) (hk : zz_R k cap) (k2 cap2 : Nat) (hk2 : zz_R k2 cap2) (L L2 : List Nat) (hL : zrow M k cap L) (hL2 : zrow M k2 cap2 L2) (hne : k2 ≠ k) (hn1 : k2 ≠ k + 1) (hc : L2.length + L.length ≤ cap) : Met l yX5_putAllAhead wsX5_putAllAhead ({ frames := 1, cells := 0, slots := 0, locals := 60 } : Room) (zz_P G M [.ref (G.2.2 k), .ref (G.2.2 k2)]) (zz_Qv G (fun M1 => zfr [k, k + 1] M M1 ∧ zrow M1 k cap (L2 ++ L))) 0 0 (zz_A G) := by
  refine zz_start hJ (by decide) rfl (Nat.le_of_ble_eq_true rfl) ?_
  intro p e s m below meth c E hr hlk
  have hts := E.2.2.2.2.1
  show zz_Z p l e (headSpec wsX5_putAllAhead ({ frames := 1, cells := 0, slots := 0, locals := 60 } : Room)).room s m ([.ref (G.2.2 k), .ref (G.2.2 k2)] : List Value).toArray below meth c 0 0 (MQ below (zz_Qv G (fun M1 => zfr [k, k + 1] M M1 ∧ zrow M1 k cap (L2 ++ L))) ([.ref (G.2.2 k), .ref (G.2.2 k2)] : List Value).toArray s 0 0 (zz_A G)) 2 G (zz_A G) M 0 [(0, .ref (G.2.2 k)), (1, .ref (G.2.2 k2))] []
  have hb := hk.2.2.2.1
  have hb2 := hk2.2.2.2.1
  have hcc := hL2.2.1
  refine zz_aload_n (pc := 0) E dX5_putAllAhead_0 rfl ?_
  refine zz_gf (pc := 1) E k2 (by have := hk2.2.2.1; omega) (zz_F_row hk2.1 hk2.2.1) rfl inX5_putAllAhead_X5 1 (by decide) lkX5_putAllAhead_21 (fun _ h => h) rfl dX5_putAllAhead_1 ?_
  refine zz_eqi (y := nI L2.length) hL2.1 ?_
  refine zz_aload_n (pc := 4) E dX5_putAllAhead_4 rfl ?_
  refine zz_gf (pc := 5) E k (by have := hk.2.2.1; omega) (zz_F_row hk.1 hk.2.1) rfl inX5_putAllAhead_X5 0 (by decide) lkX5_putAllAhead_15 (fun _ h => h) rfl dX5_putAllAhead_5 ?_
  refine zz_alen (pc := 8) E (k + 1) (n := cap) hk.2.2.1 (hk.2.2.2.2 G _) dX5_putAllAhead_8 ?_
  refine zz_aload_n (pc := 9) E dX5_putAllAhead_9 rfl ?_
  refine zz_gf (pc := 10) E k (by have := hk.2.2.1; omega) (zz_F_row hk.1 hk.2.1) rfl inX5_putAllAhead_X5 1 (by decide) lkX5_putAllAhead_21 (fun _ h => h) rfl dX5_putAllAhead_10 ?_
  refine zz_eqi (y := nI L.length) hL.1 ?_
  refine zn_isub (pc := 13) E dX5_putAllAhead_13 (by omega) ?_
  refine zn_icmp_gt (pc := 14) (tgt := 50) E dX5_putAllAhead_14 (by decide) (by omega) (by omega) (fun h14 => ?_) (fun h14 => ?_)
  · exact absurd h14 (by omega)
  · refine zz_aload_n (pc := 17) E dX5_putAllAhead_17 rfl ?_
    refine zz_gf (pc := 18) E k2 (by have := hk2.2.2.1; omega) (zz_F_row hk2.1 hk2.2.1) rfl inX5_putAllAhead_X5 0 (by decide) lkX5_putAllAhead_15 (fun _ h => h) rfl dX5_putAllAhead_18 ?_
    refine zz_iconst (pc := 21) (v := nI 0) E dX5_putAllAhead_21 (by decide) ?_
    refine zz_aload_n (pc := 22) E dX5_putAllAhead_22 rfl ?_
    refine zz_gf (pc := 23) E k (by have := hk.2.2.1; omega) (zz_F_row hk.1 hk.2.1) rfl inX5_putAllAhead_X5 0 (by decide) lkX5_putAllAhead_15 (fun _ h => h) rfl dX5_putAllAhead_23 ?_
    refine zz_aload_n (pc := 26) E dX5_putAllAhead_26 rfl ?_
    refine zz_gf (pc := 27) E k (by have := hk.2.2.1; omega) (zz_F_row hk.1 hk.2.1) rfl inX5_putAllAhead_X5 1 (by decide) lkX5_putAllAhead_21 (fun _ h => h) rfl dX5_putAllAhead_27 ?_
    refine zz_eqi (y := nI L.length) hL.1 ?_
    refine zz_aload_n (pc := 30) E dX5_putAllAhead_30 rfl ?_
    refine zz_gf (pc := 31) E k2 (by have := hk2.2.2.1; omega) (zz_F_row hk2.1 hk2.2.1) rfl inX5_putAllAhead_X5 1 (by decide) lkX5_putAllAhead_21 (fun _ h => h) rfl dX5_putAllAhead_31 ?_
    refine zz_eqi (y := nI L2.length) hL2.1 ?_
    refine zz_acopy (pc := 34) E (k2 + 1) (k + 1) (n0 := cap2) (n1 := cap) hk2.2.2.1 hk.2.2.1 (hk2.2.2.2.2 G _) (hk.2.2.2.2 G) rfl rfl rfl (by omega) (by omega) hk2.2.2.2.1 hk.2.2.2.1 mmX5_putAllAhead_35_ml mmX5_putAllAhead_35_na mmX5_putAllAhead_35_st mmX5_putAllAhead_35_in (by decide) (Nat.le_of_ble_eq_true rfl) dX5_putAllAhead_34 ?_
    refine zz_aload_n (pc := 37) E dX5_putAllAhead_37 rfl ?_
    refine zz_dup (pc := 38) E dX5_putAllAhead_38 rfl ?_
    refine zz_gf (pc := 39) E k (by have := hk.2.2.1; omega) (zz_F_row hk.1 hk.2.1) rfl inX5_putAllAhead_X5 1 (by decide) lkX5_putAllAhead_21 (fun _ h => h) rfl dX5_putAllAhead_39 ?_
    refine zz_eqi (y := nI L.length) (by rw [zz_up_ne _ _ (by omega)]; exact hL.1) ?_
    refine zz_aload_n (pc := 42) E dX5_putAllAhead_42 rfl ?_
    refine zz_gf (pc := 43) E k2 (by have := hk2.2.2.1; omega) (zz_F_row hk2.1 hk2.2.1) rfl inX5_putAllAhead_X5 1 (by decide) lkX5_putAllAhead_21 (fun _ h => h) rfl dX5_putAllAhead_43 ?_
    refine zz_eqi (y := nI L2.length) (by rw [zz_up_ne _ _ hn1]; exact hL2.1) ?_
    refine zn_iadd (pc := 46) E dX5_putAllAhead_46 ?_
    refine zz_pfj (pc := 47) E k 0 (by have := hk.2.2.1; omega) (zz_F_row hk.1 hk.2.1) rfl inX5_putAllAhead_X5 tyX5 tyX5_ok nmX5 1 (by decide) lkX5_putAllAhead_21 (fun _ h => h) rfl rfl (Nat.le_of_ble_eq_true rfl) (zz_F_row hk.1 hk.2.1) dX5_putAllAhead_47 ?_
    exact zz_vret (pc := 50) E hr hlk dX5_putAllAhead_50 ⟨zfr_up (zfr_up (zfr_rf _ _) (by simp)) (by simp), by rw [zz_up_same, upd_same, List.length_append, Nat.add_comm], by rw [List.length_append]; omega, by rw [zz_up_ne _ _ (by omega), zz_up_same]; exact zS_cpy hL.2.2.1 hL2.2.2.1 (Nat.le_refl _), fun x h => by rcases List.mem_append.mp h with h | h; exact hL2.2.2.2 x h; exact hL.2.2.2 x h⟩

theorem inX5_sameFromFirst_X5 : ∀ w ∈ u_ws RX5 TX5 2, w ∈ wsX5_sameFromFirst := by decide +kernel
theorem lkX5_sameFromFirst_21 : Cond.fieldLink RX5 21 RX5 "length" "I" ∈ wsX5_sameFromFirst := by decide +kernel
theorem mmX5_sameFromFirst_41_ml : Cond.methodLink RX5 41 Lib.Math.min.name ∈ wsX5_sameFromFirst := by decide +kernel
theorem mmX5_sameFromFirst_41_st : Cond.static Lib.Math.min.name ∈ wsX5_sameFromFirst := by decide +kernel
theorem mmX5_sameFromFirst_41_in : Cond.initialized "java/lang/Math" ∈ wsX5_sameFromFirst := by decide +kernel
theorem mmX5_sameFromFirst_41_co : Cond.code Lib.Math.min.name Lib.Math.min.code 2 (some .int) ∈ wsX5_sameFromFirst := by decide +kernel
set_option maxHeartbeats 4000000 in
set_option maxRecDepth 100000 in
theorem kkX5_sameFromFirst (l : Launch) (G : zz_C) (hJ : zz_J G) (M : zz_M) (k cap : Nat) (hk : zz_R k cap) (k2 cap2 : Nat) (hk2 : zz_R k2 cap2) (L L2 : List Nat) (hL : zrow M k cap L) (hL2 : zrow M k2 cap2 L2) : Met l yX5_sameFromFirst wsX5_sameFromFirst ({ frames := 2, cells := 0, slots := 0, locals := 42 } : Room) (zz_P G M [.ref (G.2.2 k), .ref (G.2.2 k2)]) (zz_Qi G (fun r M1 => M1 = M ∧ r = nI (zcp (L) (L2)))) 0 0 (zz_A G) := by
  refine zz_start hJ (by decide) rfl (Nat.le_of_ble_eq_true rfl) ?_
  intro p e s m below meth c E hr hlk
  have hts := E.2.2.2.2.1
  show zz_Z p l e (headSpec wsX5_sameFromFirst ({ frames := 2, cells := 0, slots := 0, locals := 42 } : Room)).room s m ([.ref (G.2.2 k), .ref (G.2.2 k2)] : List Value).toArray below meth c 0 0 (MQ below (zz_Qi G (fun r M1 => M1 = M ∧ r = nI (zcp (L) (L2)))) ([.ref (G.2.2 k), .ref (G.2.2 k2)] : List Value).toArray s 0 0 (zz_A G)) 4 G (zz_A G) M 0 [(0, .ref (G.2.2 k)), (1, .ref (G.2.2 k2))] []
  have hb1 := hk.2.2.2.1
  have hb2 := hk2.2.2.2.1
  have hc1 := hL.2.1
  have hc2 := hL2.2.1
  refine zz_aload_n (pc := 0) E dX5_sameFromFirst_0 rfl ?_
  refine zz_gf (pc := 1) E k (by have := hk.2.2.1; omega) (zz_F_row hk.1 hk.2.1) rfl inX5_sameFromFirst_X5 1 (by decide) lkX5_sameFromFirst_21 (fun _ h => h) rfl dX5_sameFromFirst_1 ?_
  refine zz_eqi (y := nI L.length) hL.1 ?_
  refine zz_aload_n (pc := 4) E dX5_sameFromFirst_4 rfl ?_
  refine zz_gf (pc := 5) E k2 (by have := hk2.2.2.1; omega) (zz_F_row hk2.1 hk2.2.1) rfl inX5_sameFromFirst_X5 1 (by decide) lkX5_sameFromFirst_21 (fun _ h => h) rfl dX5_sameFromFirst_5 ?_
  refine zz_eqi (y := nI L2.length) hL2.1 ?_
  refine zz_min (rest := []) (pc := 8) E mmX5_sameFromFirst_41_ml mmX5_sameFromFirst_41_st mmX5_sameFromFirst_41_in mmX5_sameFromFirst_41_co (by decide) (Nat.le_of_ble_eq_true rfl) dX5_sameFromFirst_8 ?_
  refine zz_eqi (y := nI (min L.length L2.length)) (zmin_ok (by omega) (by omega)) ?_
  refine zz_istore_n (pc := 11) (lv' := [(0, _), (1, _), (2, _)]) E dX5_sameFromFirst_11 (by decide) rfl ?_
  refine zz_iconst (pc := 12) (v := nI 0) E dX5_sameFromFirst_12 (by decide) ?_
  refine zz_istore_n (pc := 13) (lv' := [(0, _), (1, _), (2, _), (3, _)]) E dX5_sameFromFirst_13 (by decide) rfl ?_
  have key : ∀ (j i : Nat), i + j = min L.length L2.length → i + zcp ((L).drop i) ((L2).drop i) = zcp (L) (L2) → zz_Z p l e (headSpec wsX5_sameFromFirst ({ frames := 2, cells := 0, slots := 0, locals := 42 } : Room)).room s m ([.ref (G.2.2 k), .ref (G.2.2 k2)] : List Value).toArray below meth c 0 0 (MQ below (zz_Qi G (fun r M1 => M1 = M ∧ r = nI (zcp (L) (L2)))) ([.ref (G.2.2 k), .ref (G.2.2 k2)] : List Value).toArray s 0 0 (zz_A G)) 4 G (zz_A G) M 14 [(0, .ref (G.2.2 k)), (1, .ref (G.2.2 k2)), (2, .int (nI (min L.length L2.length))), (3, .int (nI i))] [] := by
    intro j
    induction j with
    | zero =>
      intro i hi hz
      refine zz_iload_n (pc := 14) E dX5_sameFromFirst_14 rfl ?_
      refine zz_iload_n (pc := 15) E dX5_sameFromFirst_15 rfl ?_
      refine zn_icmp_ge (pc := 16) (tgt := 38) E dX5_sameFromFirst_16 (by decide) (by omega) (by omega) (fun h16 => ?_) (fun h16 => ?_)
      · refine zz_iload_n (pc := 38) E dX5_sameFromFirst_38 rfl ?_
        exact zz_iret (pc := 39) E hr hlk dX5_sameFromFirst_39 ⟨rfl, by rw [zcp_end (by (try simp only [List.length_reverse]); omega)] at hz; rw [← hz]; rfl⟩
      · exact absurd h16 (by omega)
    | succ j ih =>
      intro i hi hz
      obtain ⟨a, ha⟩ : ∃ a, (L)[i]? = some a := ⟨_, List.getElem?_eq_getElem (by (try simp only [List.length_reverse]); omega)⟩
      obtain ⟨b, hb⟩ : ∃ a, (L2)[i]? = some a := ⟨_, List.getElem?_eq_getElem (by (try simp only [List.length_reverse]); omega)⟩
      have ha10 : a < 10 := hL.2.2.2 a (by have := List.mem_of_getElem? ha; simpa using this)
      have hb10 : b < 10 := hL2.2.2.2 b (by have := List.mem_of_getElem? hb; simpa using this)
      rw [zcp_drop ha hb] at hz
      refine zz_iload_n (pc := 14) E dX5_sameFromFirst_14 rfl ?_
      refine zz_iload_n (pc := 15) E dX5_sameFromFirst_15 rfl ?_
      refine zn_icmp_ge (pc := 16) (tgt := 38) E dX5_sameFromFirst_16 (by decide) (by omega) (by omega) (fun h16 => ?_) (fun h16 => ?_)
      · exact absurd h16 (by omega)
      · refine zz_aload_n (pc := 19) E dX5_sameFromFirst_19 rfl ?_
        refine zz_iload_n (pc := 20) E dX5_sameFromFirst_20 rfl ?_
        refine zz_ciV (pc := 21) E k (kkX5_fromFirst l G hJ _ _ _ hk _ L hL (by omega)) (cwV 1 hts gX5_sameFromFirst_X5_fromFirst rfl rfl rfl (by decide +kernel) ⟨Nat.le_of_ble_eq_true rfl, Nat.le_of_ble_eq_true rfl⟩) (by have := hk.2.2.1; omega) (zz_F_row hk.1 hk.2.1) rfl rfl rfl (Nat.le_of_ble_eq_true rfl) dX5_sameFromFirst_21 (fun r21 M21 q21 => ?_)
        obtain ⟨rfl, rfl⟩ := q21
        refine zz_eqi (y := zo (some a)) (by rw [ha]) ?_
        refine zz_aload_n (pc := 24) E dX5_sameFromFirst_24 rfl ?_
        refine zz_iload_n (pc := 25) E dX5_sameFromFirst_25 rfl ?_
        refine zz_ciV (pc := 26) E k2 (kkX5_fromFirst l G hJ _ _ _ hk2 _ L2 hL2 (by omega)) (cwV 1 hts gX5_sameFromFirst_X5_fromFirst rfl rfl rfl (by decide +kernel) ⟨Nat.le_of_ble_eq_true rfl, Nat.le_of_ble_eq_true rfl⟩) (by have := hk2.2.2.1; omega) (zz_F_row hk2.1 hk2.2.1) rfl rfl rfl (Nat.le_of_ble_eq_true rfl) dX5_sameFromFirst_26 (fun r26 M26 q26 => ?_)
        obtain ⟨rfl, rfl⟩ := q26
        refine zz_eqi (y := zo (some b)) (by rw [hb]) ?_
        refine zz_icmp_ne (pc := 29) (tgt := 38) E dX5_sameFromFirst_29 (by decide) (fun h29 => ?_) (fun h29 => ?_)
        · refine zz_iload_n (pc := 38) E dX5_sameFromFirst_38 rfl ?_
          exact zz_iret (pc := 39) E hr hlk dX5_sameFromFirst_39 ⟨rfl, by rw [if_neg (fun q => h29 ((zo_lt (o := none) (by omega) (by omega)).mpr q))] at hz; rw [← hz]; rfl⟩
        · refine zn_inc (pc := 32) (lv' := [(0, _), (1, _), (2, _), (3, _)]) E dX5_sameFromFirst_32 rfl (by decide) rfl ?_
          refine zz_goto (pc := 35) (tgt := 14) E dX5_sameFromFirst_35 (by decide) ?_
          exact zz_to (ih (i + 1) (by omega) (by rw [if_pos ((zo_lt (o := none) (by omega) (by omega)).mp h29)] at hz; omega)) ⟨rfl, rfl, rfl, rfl, trivial⟩
  exact zz_to (key _ 0 (Nat.zero_add _) (by simp)) ⟨rfl, rfl, rfl, rfl, trivial⟩

theorem inX5_sameFromLast_X5 : ∀ w ∈ u_ws RX5 TX5 2, w ∈ wsX5_sameFromLast := by decide +kernel
theorem lkX5_sameFromLast_21 : Cond.fieldLink RX5 21 RX5 "length" "I" ∈ wsX5_sameFromLast := by decide +kernel
theorem mmX5_sameFromLast_41_ml : Cond.methodLink RX5 41 Lib.Math.min.name ∈ wsX5_sameFromLast := by decide +kernel
theorem mmX5_sameFromLast_41_st : Cond.static Lib.Math.min.name ∈ wsX5_sameFromLast := by decide +kernel
theorem mmX5_sameFromLast_41_in : Cond.initialized "java/lang/Math" ∈ wsX5_sameFromLast := by decide +kernel
theorem mmX5_sameFromLast_41_co : Cond.code Lib.Math.min.name Lib.Math.min.code 2 (some .int) ∈ wsX5_sameFromLast := by decide +kernel
set_option maxHeartbeats 4000000 in
set_option maxRecDepth 100000 in
theorem kkX5_sameFromLast (l : Launch) (G : zz_C) (hJ : zz_J G) (M : zz_M) (k cap : Nat) (hk : zz_R k cap) (k2 cap2 : Nat) (hk2 : zz_R k2 cap2) (L L2 : List Nat) (hL : zrow M k cap L) (hL2 : zrow M k2 cap2 L2) : Met l yX5_sameFromLast wsX5_sameFromLast ({ frames := 1, cells := 0, slots := 0, locals := 21 } : Room) (zz_P G M [.ref (G.2.2 k), .ref (G.2.2 k2)]) (zz_Qi G (fun r M1 => M1 = M ∧ r = nI (zcp (L.reverse) (L2.reverse)))) 0 0 (zz_A G) := by
  refine zz_start hJ (by decide) rfl (Nat.le_of_ble_eq_true rfl) ?_
  intro p e s m below meth c E hr hlk
  have hts := E.2.2.2.2.1
  show zz_Z p l e (headSpec wsX5_sameFromLast ({ frames := 1, cells := 0, slots := 0, locals := 21 } : Room)).room s m ([.ref (G.2.2 k), .ref (G.2.2 k2)] : List Value).toArray below meth c 0 0 (MQ below (zz_Qi G (fun r M1 => M1 = M ∧ r = nI (zcp (L.reverse) (L2.reverse)))) ([.ref (G.2.2 k), .ref (G.2.2 k2)] : List Value).toArray s 0 0 (zz_A G)) 4 G (zz_A G) M 0 [(0, .ref (G.2.2 k)), (1, .ref (G.2.2 k2))] []
  have hb1 := hk.2.2.2.1
  have hb2 := hk2.2.2.2.1
  have hc1 := hL.2.1
  have hc2 := hL2.2.1
  refine zz_aload_n (pc := 0) E dX5_sameFromLast_0 rfl ?_
  refine zz_gf (pc := 1) E k (by have := hk.2.2.1; omega) (zz_F_row hk.1 hk.2.1) rfl inX5_sameFromLast_X5 1 (by decide) lkX5_sameFromLast_21 (fun _ h => h) rfl dX5_sameFromLast_1 ?_
  refine zz_eqi (y := nI L.length) hL.1 ?_
  refine zz_aload_n (pc := 4) E dX5_sameFromLast_4 rfl ?_
  refine zz_gf (pc := 5) E k2 (by have := hk2.2.2.1; omega) (zz_F_row hk2.1 hk2.2.1) rfl inX5_sameFromLast_X5 1 (by decide) lkX5_sameFromLast_21 (fun _ h => h) rfl dX5_sameFromLast_5 ?_
  refine zz_eqi (y := nI L2.length) hL2.1 ?_
  refine zz_min (rest := []) (pc := 8) E mmX5_sameFromLast_41_ml mmX5_sameFromLast_41_st mmX5_sameFromLast_41_in mmX5_sameFromLast_41_co (by decide) (Nat.le_of_ble_eq_true rfl) dX5_sameFromLast_8 ?_
  refine zz_eqi (y := nI (min L.length L2.length)) (zmin_ok (by omega) (by omega)) ?_
  refine zz_istore_n (pc := 11) (lv' := [(0, _), (1, _), (2, _)]) E dX5_sameFromLast_11 (by decide) rfl ?_
  refine zz_iconst (pc := 12) (v := nI 0) E dX5_sameFromLast_12 (by decide) ?_
  refine zz_istore_n (pc := 13) (lv' := [(0, _), (1, _), (2, _), (3, _)]) E dX5_sameFromLast_13 (by decide) rfl ?_
  have key : ∀ (j i : Nat), i + j = min L.length L2.length → i + zcp ((L.reverse).drop i) ((L2.reverse).drop i) = zcp (L.reverse) (L2.reverse) → zz_Z p l e (headSpec wsX5_sameFromLast ({ frames := 1, cells := 0, slots := 0, locals := 21 } : Room)).room s m ([.ref (G.2.2 k), .ref (G.2.2 k2)] : List Value).toArray below meth c 0 0 (MQ below (zz_Qi G (fun r M1 => M1 = M ∧ r = nI (zcp (L.reverse) (L2.reverse)))) ([.ref (G.2.2 k), .ref (G.2.2 k2)] : List Value).toArray s 0 0 (zz_A G)) 4 G (zz_A G) M 14 [(0, .ref (G.2.2 k)), (1, .ref (G.2.2 k2)), (2, .int (nI (min L.length L2.length))), (3, .int (nI i))] [] := by
    intro j
    induction j with
    | zero =>
      intro i hi hz
      refine zz_iload_n (pc := 14) E dX5_sameFromLast_14 rfl ?_
      refine zz_iload_n (pc := 15) E dX5_sameFromLast_15 rfl ?_
      refine zn_icmp_ge (pc := 16) (tgt := 38) E dX5_sameFromLast_16 (by decide) (by omega) (by omega) (fun h16 => ?_) (fun h16 => ?_)
      · refine zz_iload_n (pc := 38) E dX5_sameFromLast_38 rfl ?_
        exact zz_iret (pc := 39) E hr hlk dX5_sameFromLast_39 ⟨rfl, by rw [zcp_end (by (try simp only [List.length_reverse]); omega)] at hz; rw [← hz]; rfl⟩
      · exact absurd h16 (by omega)
    | succ j ih =>
      intro i hi hz
      obtain ⟨a, ha⟩ : ∃ a, (L.reverse)[i]? = some a := ⟨_, List.getElem?_eq_getElem (by (try simp only [List.length_reverse]); omega)⟩
      obtain ⟨b, hb⟩ : ∃ a, (L2.reverse)[i]? = some a := ⟨_, List.getElem?_eq_getElem (by (try simp only [List.length_reverse]); omega)⟩
      have ha10 : a < 10 := hL.2.2.2 a (by have := List.mem_of_getElem? ha; simpa using this)
      have hb10 : b < 10 := hL2.2.2.2 b (by have := List.mem_of_getElem? hb; simpa using this)
      rw [zcp_drop ha hb] at hz
      refine zz_iload_n (pc := 14) E dX5_sameFromLast_14 rfl ?_
      refine zz_iload_n (pc := 15) E dX5_sameFromLast_15 rfl ?_
      refine zn_icmp_ge (pc := 16) (tgt := 38) E dX5_sameFromLast_16 (by decide) (by omega) (by omega) (fun h16 => ?_) (fun h16 => ?_)
      · exact absurd h16 (by omega)
      · refine zz_aload_n (pc := 19) E dX5_sameFromLast_19 rfl ?_
        refine zz_iload_n (pc := 20) E dX5_sameFromLast_20 rfl ?_
        refine zz_ciV (pc := 21) E k (kkX5_fromLast l G hJ _ _ _ hk _ L hL) (cwV 1 hts gX5_sameFromLast_X5_fromLast rfl rfl rfl (by decide +kernel) ⟨Nat.le_of_ble_eq_true rfl, Nat.le_of_ble_eq_true rfl⟩) (by have := hk.2.2.1; omega) (zz_F_row hk.1 hk.2.1) rfl rfl rfl (Nat.le_of_ble_eq_true rfl) dX5_sameFromLast_21 (fun r21 M21 q21 => ?_)
        obtain ⟨rfl, rfl⟩ := q21
        refine zz_eqi (y := zo (some a)) (by rw [zp_in_nI (by omega), decide_eq_true (by omega), if_pos rfl, nI_toInt (by omega)]; show zo (L.reverse[i]?) = _; rw [ha]) ?_
        refine zz_aload_n (pc := 24) E dX5_sameFromLast_24 rfl ?_
        refine zz_iload_n (pc := 25) E dX5_sameFromLast_25 rfl ?_
        refine zz_ciV (pc := 26) E k2 (kkX5_fromLast l G hJ _ _ _ hk2 _ L2 hL2) (cwV 1 hts gX5_sameFromLast_X5_fromLast rfl rfl rfl (by decide +kernel) ⟨Nat.le_of_ble_eq_true rfl, Nat.le_of_ble_eq_true rfl⟩) (by have := hk2.2.2.1; omega) (zz_F_row hk2.1 hk2.2.1) rfl rfl rfl (Nat.le_of_ble_eq_true rfl) dX5_sameFromLast_26 (fun r26 M26 q26 => ?_)
        obtain ⟨rfl, rfl⟩ := q26
        refine zz_eqi (y := zo (some b)) (by rw [zp_in_nI (by omega), decide_eq_true (by omega), if_pos rfl, nI_toInt (by omega)]; show zo (L2.reverse[i]?) = _; rw [hb]) ?_
        refine zz_icmp_ne (pc := 29) (tgt := 38) E dX5_sameFromLast_29 (by decide) (fun h29 => ?_) (fun h29 => ?_)
        · refine zz_iload_n (pc := 38) E dX5_sameFromLast_38 rfl ?_
          exact zz_iret (pc := 39) E hr hlk dX5_sameFromLast_39 ⟨rfl, by rw [if_neg (fun q => h29 ((zo_lt (o := none) (by omega) (by omega)).mpr q))] at hz; rw [← hz]; rfl⟩
        · refine zn_inc (pc := 32) (lv' := [(0, _), (1, _), (2, _), (3, _)]) E dX5_sameFromLast_32 rfl (by decide) rfl ?_
          refine zz_goto (pc := 35) (tgt := 14) E dX5_sameFromLast_35 (by decide) ?_
          exact zz_to (ih (i + 1) (by omega) (by rw [if_pos ((zo_lt (o := none) (by omega) (by omega)).mp h29)] at hz; omega)) ⟨rfl, rfl, rfl, rfl, trivial⟩
  exact zz_to (key _ 0 (Nat.zero_add _) (by simp)) ⟨rfl, rfl, rfl, rfl, trivial⟩

theorem inX5_isSame_X5 : ∀ w ∈ u_ws RX5 TX5 2, w ∈ wsX5_isSame := by decide +kernel
theorem lkX5_isSame_21 : Cond.fieldLink RX5 21 RX5 "length" "I" ∈ wsX5_isSame := by decide +kernel
set_option maxHeartbeats 4000000 in
set_option maxRecDepth 100000 in
theorem kkX5_isSame (l : Launch) (G : zz_C) (hJ : zz_J G) (M : zz_M) (k cap : Nat) (hk : zz_R k cap) (k2 cap2 : Nat) (hk2 : zz_R k2 cap2) (L L2 : List Nat) (hL : zrow M k cap L) (hL2 : zrow M k2 cap2 L2) : Met l yX5_isSame wsX5_isSame ({ frames := 2, cells := 0, slots := 0, locals := 44 } : Room) (zz_P G M [.ref (G.2.2 k), .ref (G.2.2 k2)]) (zz_Qi G (fun r M1 => M1 = M ∧ r = zz_b (decide (L = L2)))) 0 0 (zz_A G) := by
  refine zz_start hJ (by decide) rfl (Nat.le_of_ble_eq_true rfl) ?_
  intro p e s m below meth c E hr hlk
  have hts := E.2.2.2.2.1
  show zz_Z p l e (headSpec wsX5_isSame ({ frames := 2, cells := 0, slots := 0, locals := 44 } : Room)).room s m ([.ref (G.2.2 k), .ref (G.2.2 k2)] : List Value).toArray below meth c 0 0 (MQ below (zz_Qi G (fun r M1 => M1 = M ∧ r = zz_b (decide (L = L2)))) ([.ref (G.2.2 k), .ref (G.2.2 k2)] : List Value).toArray s 0 0 (zz_A G)) 2 G (zz_A G) M 0 [(0, .ref (G.2.2 k)), (1, .ref (G.2.2 k2))] []
  have hb1 := hk.2.2.2.1
  have hb2 := hk2.2.2.2.1
  have hc1 := hL.2.1
  have hc2 := hL2.2.1
  have hcp := zcp_le L.reverse L2.reverse
  rw [List.length_reverse] at hcp
  refine zz_aload_n (pc := 0) E dX5_isSame_0 rfl ?_
  refine zz_gf (pc := 1) E k (by have := hk.2.2.1; omega) (zz_F_row hk.1 hk.2.1) rfl inX5_isSame_X5 1 (by decide) lkX5_isSame_21 (fun _ h => h) rfl dX5_isSame_1 ?_
  refine zz_eqi (y := nI L.length) hL.1 ?_
  refine zz_aload_n (pc := 4) E dX5_isSame_4 rfl ?_
  refine zz_gf (pc := 5) E k2 (by have := hk2.2.2.1; omega) (zz_F_row hk2.1 hk2.2.1) rfl inX5_isSame_X5 1 (by decide) lkX5_isSame_21 (fun _ h => h) rfl dX5_isSame_5 ?_
  refine zz_eqi (y := nI L2.length) hL2.1 ?_
  refine zn_icmp_ne (pc := 8) (tgt := 27) E dX5_isSame_8 (by decide) (by omega) (by omega) (fun h8 => ?_) (fun h8 => ?_)
  · refine zz_iconst (pc := 27) (v := nI 0) E dX5_isSame_27 (by decide) ?_
    exact zz_zret (pc := 28) E hr hlk dX5_isSame_28 (by decide) ⟨rfl, by first | (rw [decide_eq_false (fun q => h8 (by rw [q]))]; rfl) | (rw [decide_eq_false (fun q => h20 (by rw [q, (zcp_all rfl).mpr rfl, List.length_reverse]))]; rfl) | (rw [decide_eq_true (zsame_ok h8 h20)]; rfl)⟩
  · refine zz_aload_n (pc := 11) E dX5_isSame_11 rfl ?_
    refine zz_aload_n (pc := 12) E dX5_isSame_12 rfl ?_
    refine zz_ciV (pc := 13) E k (kkX5_sameFromLast l G hJ _ _ _ hk _ _ hk2 L L2 hL hL2) (cwV 1 hts gX5_isSame_X5_sameFromLast rfl rfl rfl (by decide +kernel) ⟨Nat.le_of_ble_eq_true rfl, Nat.le_of_ble_eq_true rfl⟩) (by have := hk.2.2.1; omega) (zz_F_row hk.1 hk.2.1) rfl rfl rfl (Nat.le_of_ble_eq_true rfl) dX5_isSame_13 (fun r13 M13 q13 => ?_)
    obtain ⟨rfl, rfl⟩ := q13
    refine zz_aload_n (pc := 16) E dX5_isSame_16 rfl ?_
    refine zz_gf (pc := 17) E k (by have := hk.2.2.1; omega) (zz_F_row hk.1 hk.2.1) rfl inX5_isSame_X5 1 (by decide) lkX5_isSame_21 (fun _ h => h) rfl dX5_isSame_17 ?_
    refine zz_eqi (y := nI L.length) hL.1 ?_
    refine zn_icmp_ne (pc := 20) (tgt := 27) E dX5_isSame_20 (by decide) (by omega) (by omega) (fun h20 => ?_) (fun h20 => ?_)
    · refine zz_iconst (pc := 27) (v := nI 0) E dX5_isSame_27 (by decide) ?_
      exact zz_zret (pc := 28) E hr hlk dX5_isSame_28 (by decide) ⟨rfl, by first | (rw [decide_eq_false (fun q => h8 (by rw [q]))]; rfl) | (rw [decide_eq_false (fun q => h20 (by rw [q, (zcp_all rfl).mpr rfl, List.length_reverse]))]; rfl) | (rw [decide_eq_true (zsame_ok h8 h20)]; rfl)⟩
    · refine zz_iconst (pc := 23) (v := nI 1) E dX5_isSame_23 (by decide) ?_
      refine zz_goto (pc := 24) (tgt := 28) E dX5_isSame_24 (by decide) ?_
      exact zz_zret (pc := 28) E hr hlk dX5_isSame_28 (by decide) ⟨rfl, by first | (rw [decide_eq_false (fun q => h8 (by rw [q]))]; rfl) | (rw [decide_eq_false (fun q => h20 (by rw [q, (zcp_all rfl).mpr rfl, List.length_reverse]))]; rfl) | (rw [decide_eq_true (zsame_ok h8 h20)]; rfl)⟩
end
section
/-! tables: 18 rules, 6 claims, each a number or none -/
def ztab (M : zz_M) (k : Nat) (S : Nat → Option Nat) : Prop := (∀ i, i < 18 → M (k + 1) i = zo (S i)) ∧ ∀ i, i < 6 → M (k + 2) i = zo (S (18 + i))
theorem ztab_congr {M M1 : zz_M} {k : Nat} {S : Nat → Option Nat} (h : ztab M k S) (h1 : M1 (k + 1) = M (k + 1)) (h2 : M1 (k + 2) = M (k + 2)) : ztab M1 k S := ⟨fun i hi => by rw [h1]; exact h.1 i hi, fun i hi => by rw [h2]; exact h.2 i hi⟩
theorem ztab_fr {ks : List Nat} {M M1 : zz_M} {k : Nat} {S : Nat → Option Nat} (h : ztab M k S) (hf : zfr ks M M1) (h1 : k + 1 ∉ ks) (h2 : k + 2 ∉ ks) : ztab M1 k S := ztab_congr h (hf _ h1) (hf _ h2)
def zrl (M : zz_M) (k : Nat) (x y : Int32) : Int32 := if zp_in x 6 && zp_in y 3 then M (k + 1) (3 * x.toInt.toNat + y.toInt.toNat) else -9
theorem zrl_nI {M : zz_M} {k s a : Nat} (hs : s < 6) (ha : a < 3) : zrl M k (nI s) (nI a) = M (k + 1) (3 * s + a) := by
  unfold zrl
  rw [zp_in_nI (by omega), zp_in_nI (by omega), decide_eq_true hs, decide_eq_true ha, nI_toInt (by omega), nI_toInt (by omega)]
  rfl
theorem zrl_m9 {M : zz_M} {k : Nat} {x : Int32} : zrl M k (-9) x = -9 := by
  unfold zrl
  rw [show zp_in (-9) 6 = false by decide]
  rfl
theorem zrl_m9' {M : zz_M} {k : Nat} {x : Int32} : zrl M k x (-9) = -9 := by
  unfold zrl
  rw [show zp_in (-9) 3 = false by decide, Bool.and_false]
  rfl
/-- how many are there -/
def zcnt (f : Nat → Int32) : Nat → Nat
  | 0 => 0
  | n + 1 => zcnt f n + if f n = -9 then 0 else 1
theorem zcnt_le (f : Nat → Int32) : ∀ n, zcnt f n ≤ n
  | 0 => Nat.le_refl _
  | n + 1 => by
    rw [zcnt]
    have := zcnt_le f n
    by_cases h : f n = -9
    · rw [if_pos h]; omega
    · rw [if_neg h]; omega

theorem niX6_ruleOf_X7_isSign : Cond.initialized RX7 ∈ wsX6_ruleOf := by decide +kernel
theorem nsX6_ruleOf_X7_isSign : Cond.static yX7_isSign ∈ wsX6_ruleOf := by decide +kernel
theorem niX6_ruleOf_X7_isLetter : Cond.initialized RX7 ∈ wsX6_ruleOf := by decide +kernel
theorem nsX6_ruleOf_X7_isLetter : Cond.static yX7_isLetter ∈ wsX6_ruleOf := by decide +kernel
theorem inX6_ruleOf_X6 : ∀ w ∈ u_ws RX6 TX6 2, w ∈ wsX6_ruleOf := by decide +kernel
theorem lkX6_ruleOf_9 : Cond.fieldLink RX6 9 RX6 "rules" "[I" ∈ wsX6_ruleOf := by decide +kernel
set_option maxHeartbeats 4000000 in
set_option maxRecDepth 100000 in
theorem kkX6_ruleOf (l : Launch) (G : zz_C) (hJ : zz_J G) (M : zz_M) (k : Nat) (hk : zz_Tb k) (x y : Int32) : Met l yX6_ruleOf wsX6_ruleOf ({ frames := 1, cells := 0, slots := 0, locals := 20 } : Room) (zz_P G M [.ref (G.2.2 k), .int x, .int y]) (zz_Qi G (fun r M1 => M1 = M ∧ r = zrl M k x y)) 0 0 (zz_A G) := by
  refine zz_start hJ (by decide) rfl (Nat.le_of_ble_eq_true rfl) ?_
  intro p e s m below meth c E hr hlk
  have hts := E.2.2.2.2.1
  show zz_Z p l e (headSpec wsX6_ruleOf ({ frames := 1, cells := 0, slots := 0, locals := 20 } : Room)).room s m ([.ref (G.2.2 k), .int x, .int y] : List Value).toArray below meth c 0 0 (MQ below (zz_Qi G (fun r M1 => M1 = M ∧ r = zrl M k x y)) ([.ref (G.2.2 k), .int x, .int y] : List Value).toArray s 0 0 (zz_A G)) 3 G (zz_A G) M 0 [(0, .ref (G.2.2 k)), (1, .int x), (2, .int y)] []
  refine zz_iload_n (pc := 0) E dX6_ruleOf_0 rfl ?_
  refine zz_ciN (pc := 1) E (kkX7_isSign l G hJ _ _ ) ⟨va_cnB 1 hts gX6_ruleOf_X7_isSign_n24 rfl rfl rfl E.2.2.2.2.2.2.1.2.2.2.2.1 (hts _ niX6_ruleOf_X7_isSign) (by decide +kernel) ⟨Nat.le_of_ble_eq_true rfl, Nat.le_of_ble_eq_true rfl⟩, hts _ nsX6_ruleOf_X7_isSign, trivial⟩ rfl rfl (Nat.le_of_ble_eq_true rfl) dX6_ruleOf_1 (fun r1 M1 q1 => ?_)
  obtain ⟨rfl, rfl⟩ := q1
  refine zb_if_eq (pc := 4) (tgt := 27) E dX6_ruleOf_4 (by decide) (fun h4 => ?_) (fun h4 => ?_)
  · refine zz_bipush (pc := 27) (v := -9) E dX6_ruleOf_27 (by decide) ?_
    exact zz_iret (pc := 29) E hr hlk dX6_ruleOf_29 ⟨rfl, by first | (unfold zrl; rw [h4]; rfl) | (unfold zrl; rw [h11, Bool.and_false]; rfl) | (rw [hxs, hya, zrl_nI hs0 ha0]; congr 1; omega)⟩
  · refine zz_iload_n (pc := 7) E dX6_ruleOf_7 rfl ?_
    refine zz_ciN (pc := 8) E (kkX7_isLetter l G hJ _ _ ) ⟨va_cnB 1 hts gX6_ruleOf_X7_isLetter_n28 rfl rfl rfl E.2.2.2.2.2.2.1.2.2.2.2.2 (hts _ niX6_ruleOf_X7_isLetter) (by decide +kernel) ⟨Nat.le_of_ble_eq_true rfl, Nat.le_of_ble_eq_true rfl⟩, hts _ nsX6_ruleOf_X7_isLetter, trivial⟩ rfl rfl (Nat.le_of_ble_eq_true rfl) dX6_ruleOf_8 (fun r8 M8 q8 => ?_)
    obtain ⟨rfl, rfl⟩ := q8
    refine zb_if_eq (pc := 11) (tgt := 27) E dX6_ruleOf_11 (by decide) (fun h11 => ?_) (fun h11 => ?_)
    · refine zz_bipush (pc := 27) (v := -9) E dX6_ruleOf_27 (by decide) ?_
      exact zz_iret (pc := 29) E hr hlk dX6_ruleOf_29 ⟨rfl, by first | (unfold zrl; rw [h4]; rfl) | (unfold zrl; rw [h11, Bool.and_false]; rfl) | (rw [hxs, hya, zrl_nI hs0 ha0]; congr 1; omega)⟩
    · obtain ⟨s0, hs0, hxs⟩ := zp_in_of h4 (by decide)
      obtain ⟨a0, ha0, hya⟩ := zp_in_of h11 (by decide)
      refine zz_aload_n (pc := 14) E dX6_ruleOf_14 rfl ?_
      refine zz_gf (pc := 15) E k (by have := hk.2.1; omega) (zz_F_tab hk.1) rfl inX6_ruleOf_X6 0 (by decide) lkX6_ruleOf_9 (fun _ h => h) rfl dX6_ruleOf_15 ?_
      refine zz_iload_n (pc := 18) E dX6_ruleOf_18 rfl ?_
      refine zz_eqi (y := nI s0) hxs ?_
      refine zz_iconst (pc := 19) (v := nI 3) E dX6_ruleOf_19 (by decide) ?_
      refine zn_imul (pc := 20) E dX6_ruleOf_20 ?_
      refine zz_iload_n (pc := 21) E dX6_ruleOf_21 rfl ?_
      refine zz_eqi (y := nI a0) hya ?_
      refine zn_iadd (pc := 22) E dX6_ruleOf_22 ?_
      refine zz_iald (pc := 23) E (k + 1) (_) (n := 18) (by have := hk.2.1; omega) (hk.2.2.1 G _) rfl (by omega) (by decide) dX6_ruleOf_23 ?_
      refine zz_goto (pc := 24) (tgt := 29) E dX6_ruleOf_24 (by decide) ?_
      exact zz_iret (pc := 29) E hr hlk dX6_ruleOf_29 ⟨rfl, by first | (unfold zrl; rw [h4]; rfl) | (unfold zrl; rw [h11, Bool.and_false]; rfl) | (rw [hxs, hya, zrl_nI hs0 ha0]; congr 1; omega)⟩

theorem niX6_setRule_X7_isSign : Cond.initialized RX7 ∈ wsX6_setRule := by decide +kernel
theorem nsX6_setRule_X7_isSign : Cond.static yX7_isSign ∈ wsX6_setRule := by decide +kernel
theorem niX6_setRule_X7_isLetter : Cond.initialized RX7 ∈ wsX6_setRule := by decide +kernel
theorem nsX6_setRule_X7_isLetter : Cond.static yX7_isLetter ∈ wsX6_setRule := by decide +kernel
theorem inX6_setRule_X6 : ∀ w ∈ u_ws RX6 TX6 2, w ∈ wsX6_setRule := by decide +kernel
theorem lkX6_setRule_9 : Cond.fieldLink RX6 9 RX6 "rules" "[I" ∈ wsX6_setRule := by decide +kernel
set_option maxHeartbeats 4000000 in
set_option maxRecDepth 100000 in
theorem kkX6_setRule (l : Launch) (G : zz_C) (hJ : zz_J G) (M : zz_M) (k : Nat) (hk : zz_Tb k) (s0 a0 : Nat) (x : Int32) (hs0 : s0 < 6) (ha0 : a0 < 3) : Met l yX6_setRule wsX6_setRule ({ frames := 1, cells := 0, slots := 0, locals := 20 } : Room) (zz_P G M [.ref (G.2.2 k), .int (nI s0), .int (nI a0), .int x]) (zz_Qv G (fun M1 => M1 = zz_up M (k + 1) (upd (M (k + 1)) (3 * s0 + a0) x))) 0 0 (zz_A G) := by
  refine zz_start hJ (by decide) rfl (Nat.le_of_ble_eq_true rfl) ?_
  intro p e s m below meth c E hr hlk
  have hts := E.2.2.2.2.1
  show zz_Z p l e (headSpec wsX6_setRule ({ frames := 1, cells := 0, slots := 0, locals := 20 } : Room)).room s m ([.ref (G.2.2 k), .int (nI s0), .int (nI a0), .int x] : List Value).toArray below meth c 0 0 (MQ below (zz_Qv G (fun M1 => M1 = zz_up M (k + 1) (upd (M (k + 1)) (3 * s0 + a0) x))) ([.ref (G.2.2 k), .int (nI s0), .int (nI a0), .int x] : List Value).toArray s 0 0 (zz_A G)) 4 G (zz_A G) M 0 [(0, .ref (G.2.2 k)), (1, .int (nI s0)), (2, .int (nI a0)), (3, .int x)] []
  refine zz_iload_n (pc := 0) E dX6_setRule_0 rfl ?_
  refine zz_ciN (pc := 1) E (kkX7_isSign l G hJ _ _ ) ⟨va_cnB 1 hts gX6_setRule_X7_isSign_n24 rfl rfl rfl E.2.2.2.2.2.2.1.2.2.2.2.1 (hts _ niX6_setRule_X7_isSign) (by decide +kernel) ⟨Nat.le_of_ble_eq_true rfl, Nat.le_of_ble_eq_true rfl⟩, hts _ nsX6_setRule_X7_isSign, trivial⟩ rfl rfl (Nat.le_of_ble_eq_true rfl) dX6_setRule_1 (fun r1 M1 q1 => ?_)
  obtain ⟨rfl, rfl⟩ := q1
  refine zb_if_eq (pc := 4) (tgt := 25) E dX6_setRule_4 (by decide) (fun h4 => ?_) (fun h4 => ?_)
  · rw [zp_in_nI (by omega), decide_eq_true hs0] at h4
    cases h4
  · refine zz_iload_n (pc := 7) E dX6_setRule_7 rfl ?_
    refine zz_ciN (pc := 8) E (kkX7_isLetter l G hJ _ _ ) ⟨va_cnB 1 hts gX6_setRule_X7_isLetter_n28 rfl rfl rfl E.2.2.2.2.2.2.1.2.2.2.2.2 (hts _ niX6_setRule_X7_isLetter) (by decide +kernel) ⟨Nat.le_of_ble_eq_true rfl, Nat.le_of_ble_eq_true rfl⟩, hts _ nsX6_setRule_X7_isLetter, trivial⟩ rfl rfl (Nat.le_of_ble_eq_true rfl) dX6_setRule_8 (fun r8 M8 q8 => ?_)
    obtain ⟨rfl, rfl⟩ := q8
    refine zb_if_eq (pc := 11) (tgt := 25) E dX6_setRule_11 (by decide) (fun h11 => ?_) (fun h11 => ?_)
    · rw [zp_in_nI (by omega), decide_eq_true ha0] at h11
      cases h11
    · refine zz_aload_n (pc := 14) E dX6_setRule_14 rfl ?_
      refine zz_gf (pc := 15) E k (by have := hk.2.1; omega) (zz_F_tab hk.1) rfl inX6_setRule_X6 0 (by decide) lkX6_setRule_9 (fun _ h => h) rfl dX6_setRule_15 ?_
      refine zz_iload_n (pc := 18) E dX6_setRule_18 rfl ?_
      refine zz_iconst (pc := 19) (v := nI 3) E dX6_setRule_19 (by decide) ?_
      refine zn_imul (pc := 20) E dX6_setRule_20 ?_
      refine zz_iload_n (pc := 21) E dX6_setRule_21 rfl ?_
      refine zn_iadd (pc := 22) E dX6_setRule_22 ?_
      refine zz_iload_n (pc := 23) E dX6_setRule_23 rfl ?_
      refine zz_iast (pc := 24) E (k + 1) (_) (n := 18) (by have := hk.2.1; omega) (hk.2.2.1 G) rfl (by omega) (by decide) dX6_setRule_24 ?_
      exact zz_vret (pc := 25) E hr hlk dX6_setRule_25 (by rw [Nat.mul_comm])

theorem niX6_claimOf_X7_isSign : Cond.initialized RX7 ∈ wsX6_claimOf := by decide +kernel
theorem nsX6_claimOf_X7_isSign : Cond.static yX7_isSign ∈ wsX6_claimOf := by decide +kernel
theorem inX6_claimOf_X6 : ∀ w ∈ u_ws RX6 TX6 2, w ∈ wsX6_claimOf := by decide +kernel
theorem lkX6_claimOf_15 : Cond.fieldLink RX6 15 RX6 "claims" "[I" ∈ wsX6_claimOf := by decide +kernel
set_option maxHeartbeats 4000000 in
set_option maxRecDepth 100000 in
theorem kkX6_claimOf (l : Launch) (G : zz_C) (hJ : zz_J G) (M : zz_M) (k : Nat) (hk : zz_Tb k) (s0 : Nat) (hs0 : s0 < 6) : Met l yX6_claimOf wsX6_claimOf ({ frames := 1, cells := 0, slots := 0, locals := 20 } : Room) (zz_P G M [.ref (G.2.2 k), .int (nI s0)]) (zz_Qi G (fun r M1 => M1 = M ∧ r = M (k + 2) s0)) 0 0 (zz_A G) := by
  refine zz_start hJ (by decide) rfl (Nat.le_of_ble_eq_true rfl) ?_
  intro p e s m below meth c E hr hlk
  have hts := E.2.2.2.2.1
  show zz_Z p l e (headSpec wsX6_claimOf ({ frames := 1, cells := 0, slots := 0, locals := 20 } : Room)).room s m ([.ref (G.2.2 k), .int (nI s0)] : List Value).toArray below meth c 0 0 (MQ below (zz_Qi G (fun r M1 => M1 = M ∧ r = M (k + 2) s0)) ([.ref (G.2.2 k), .int (nI s0)] : List Value).toArray s 0 0 (zz_A G)) 2 G (zz_A G) M 0 [(0, .ref (G.2.2 k)), (1, .int (nI s0))] []
  refine zz_iload_n (pc := 0) E dX6_claimOf_0 rfl ?_
  refine zz_ciN (pc := 1) E (kkX7_isSign l G hJ _ _ ) ⟨va_cnB 1 hts gX6_claimOf_X7_isSign_n24 rfl rfl rfl E.2.2.2.2.2.2.1.2.2.2.2.1 (hts _ niX6_claimOf_X7_isSign) (by decide +kernel) ⟨Nat.le_of_ble_eq_true rfl, Nat.le_of_ble_eq_true rfl⟩, hts _ nsX6_claimOf_X7_isSign, trivial⟩ rfl rfl (Nat.le_of_ble_eq_true rfl) dX6_claimOf_1 (fun r1 M1 q1 => ?_)
  obtain ⟨rfl, rfl⟩ := q1
  refine zb_if_eq (pc := 4) (tgt := 16) E dX6_claimOf_4 (by decide) (fun h4 => ?_) (fun h4 => ?_)
  · rw [zp_in_nI (by omega), decide_eq_true hs0] at h4
    cases h4
  · refine zz_aload_n (pc := 7) E dX6_claimOf_7 rfl ?_
    refine zz_gf (pc := 8) E k (by have := hk.2.1; omega) (zz_F_tab hk.1) rfl inX6_claimOf_X6 1 (by decide) lkX6_claimOf_15 (fun _ h => h) rfl dX6_claimOf_8 ?_
    refine zz_iload_n (pc := 11) E dX6_claimOf_11 rfl ?_
    refine zz_iald (pc := 12) E (k + 2) (_) (n := 6) hk.2.1 (hk.2.2.2 G _) rfl (by omega) (by decide) dX6_claimOf_12 ?_
    refine zz_goto (pc := 13) (tgt := 18) E dX6_claimOf_13 (by decide) ?_
    exact zz_iret (pc := 18) E hr hlk dX6_claimOf_18 ⟨rfl, rfl⟩

theorem niX6_setClaim_X7_isSign : Cond.initialized RX7 ∈ wsX6_setClaim := by decide +kernel
theorem nsX6_setClaim_X7_isSign : Cond.static yX7_isSign ∈ wsX6_setClaim := by decide +kernel
theorem inX6_setClaim_X6 : ∀ w ∈ u_ws RX6 TX6 2, w ∈ wsX6_setClaim := by decide +kernel
theorem lkX6_setClaim_15 : Cond.fieldLink RX6 15 RX6 "claims" "[I" ∈ wsX6_setClaim := by decide +kernel
set_option maxHeartbeats 4000000 in
set_option maxRecDepth 100000 in
theorem kkX6_setClaim (l : Launch) (G : zz_C) (hJ : zz_J G) (M : zz_M) (k : Nat) (hk : zz_Tb k) (s0 : Nat) (x : Int32) (hs0 : s0 < 6) : Met l yX6_setClaim wsX6_setClaim ({ frames := 1, cells := 0, slots := 0, locals := 20 } : Room) (zz_P G M [.ref (G.2.2 k), .int (nI s0), .int x]) (zz_Qv G (fun M1 => M1 = zz_up M (k + 2) (upd (M (k + 2)) s0 x))) 0 0 (zz_A G) := by
  refine zz_start hJ (by decide) rfl (Nat.le_of_ble_eq_true rfl) ?_
  intro p e s m below meth c E hr hlk
  have hts := E.2.2.2.2.1
  show zz_Z p l e (headSpec wsX6_setClaim ({ frames := 1, cells := 0, slots := 0, locals := 20 } : Room)).room s m ([.ref (G.2.2 k), .int (nI s0), .int x] : List Value).toArray below meth c 0 0 (MQ below (zz_Qv G (fun M1 => M1 = zz_up M (k + 2) (upd (M (k + 2)) s0 x))) ([.ref (G.2.2 k), .int (nI s0), .int x] : List Value).toArray s 0 0 (zz_A G)) 3 G (zz_A G) M 0 [(0, .ref (G.2.2 k)), (1, .int (nI s0)), (2, .int x)] []
  refine zz_iload_n (pc := 0) E dX6_setClaim_0 rfl ?_
  refine zz_ciN (pc := 1) E (kkX7_isSign l G hJ _ _ ) ⟨va_cnB 1 hts gX6_setClaim_X7_isSign_n24 rfl rfl rfl E.2.2.2.2.2.2.1.2.2.2.2.1 (hts _ niX6_setClaim_X7_isSign) (by decide +kernel) ⟨Nat.le_of_ble_eq_true rfl, Nat.le_of_ble_eq_true rfl⟩, hts _ nsX6_setClaim_X7_isSign, trivial⟩ rfl rfl (Nat.le_of_ble_eq_true rfl) dX6_setClaim_1 (fun r1 M1 q1 => ?_)
  obtain ⟨rfl, rfl⟩ := q1
  refine zb_if_eq (pc := 4) (tgt := 14) E dX6_setClaim_4 (by decide) (fun h4 => ?_) (fun h4 => ?_)
  · rw [zp_in_nI (by omega), decide_eq_true hs0] at h4
    cases h4
  · refine zz_aload_n (pc := 7) E dX6_setClaim_7 rfl ?_
    refine zz_gf (pc := 8) E k (by have := hk.2.1; omega) (zz_F_tab hk.1) rfl inX6_setClaim_X6 1 (by decide) lkX6_setClaim_15 (fun _ h => h) rfl dX6_setClaim_8 ?_
    refine zz_iload_n (pc := 11) E dX6_setClaim_11 rfl ?_
    refine zz_iload_n (pc := 12) E dX6_setClaim_12 rfl ?_
    refine zz_iast (pc := 13) E (k + 2) (_) (n := 6) hk.2.1 (hk.2.2.2 G) rfl (by omega) (by decide) dX6_setClaim_13 ?_
    exact zz_vret (pc := 14) E hr hlk dX6_setClaim_14 rfl

set_option maxHeartbeats 4000000 in
set_option maxRecDepth 100000 in
theorem kkX6_countPresent (l : Launch) (G : zz_C) (hJ : zz_J G) (M : zz_M) (k n : Nat) (hk : k < 111) (hF : ∀ f, zz_F G k f = .inl (G.2.1 0, n, .inl f)) (hn : n < 2 ^ 31) : Met l yX6_countPresent wsX6_countPresent ({ frames := 0, cells := 0, slots := 0, locals := 0 } : Room) (zz_P G M [.ref (G.2.2 k)]) (zz_Qi G (fun r M1 => M1 = M ∧ r = nI (zcnt (M k) n))) 0 0 (zz_A G) := by
  refine zz_start hJ (by decide) rfl (Nat.le_of_ble_eq_true rfl) ?_
  intro p e s m below meth c E hr hlk
  have hts := E.2.2.2.2.1
  show zz_Z p l e (headSpec wsX6_countPresent ({ frames := 0, cells := 0, slots := 0, locals := 0 } : Room)).room s m ([.ref (G.2.2 k)] : List Value).toArray below meth c 0 0 (MQ below (zz_Qi G (fun r M1 => M1 = M ∧ r = nI (zcnt (M k) n))) ([.ref (G.2.2 k)] : List Value).toArray s 0 0 (zz_A G)) 6 G (zz_A G) M 0 [(0, .ref (G.2.2 k))] []
  refine zz_iconst (pc := 0) (v := nI 0) E dX6_countPresent_0 (by decide) ?_
  refine zz_istore_n (pc := 1) (lv' := [(0, _), (1, _)]) E dX6_countPresent_1 (by decide) rfl ?_
  refine zz_aload_n (pc := 2) E dX6_countPresent_2 rfl ?_
  refine zz_astore_n (pc := 3) (lv' := [(0, _), (1, _), (2, _)]) E dX6_countPresent_3 (by decide) rfl ?_
  refine zz_aload_n (pc := 4) E dX6_countPresent_4 rfl ?_
  refine zz_alen (pc := 5) E k (n := n) hk (hF _) dX6_countPresent_5 ?_
  refine zz_istore_n (pc := 6) (lv' := [(0, _), (1, _), (2, _), (3, _)]) E dX6_countPresent_6 (by decide) rfl ?_
  refine zz_iconst (pc := 7) (v := nI 0) E dX6_countPresent_7 (by decide) ?_
  refine zz_istore (pc := 8) (lv' := [(0, _), (1, _), (2, _), (3, _), (4, _)]) E dX6_countPresent_8 (by decide) rfl ?_
  have key : ∀ (j i : Nat), i + j = n → zz_Z p l e (headSpec wsX6_countPresent ({ frames := 0, cells := 0, slots := 0, locals := 0 } : Room)).room s m ([.ref (G.2.2 k)] : List Value).toArray below meth c 0 0 (MQ below (zz_Qi G (fun r M1 => M1 = M ∧ r = nI (zcnt (M k) n))) ([.ref (G.2.2 k)] : List Value).toArray s 0 0 (zz_A G)) 6 G (zz_A G) M 10 [(1, .int (nI (zcnt (M k) i))), (2, .ref (G.2.2 k)), (3, .int (nI n)), (4, .int (nI i))] [] := by
    intro j
    induction j with
    | zero =>
      intro i hi
      refine zz_iload (pc := 10) E dX6_countPresent_10 rfl ?_
      refine zz_iload_n (pc := 12) E dX6_countPresent_12 rfl ?_
      refine zn_icmp_ge (pc := 13) (tgt := 38) E dX6_countPresent_13 (by decide) (by omega) (by omega) (fun h13 => ?_) (fun h13 => ?_)
      · refine zz_iload_n (pc := 38) E dX6_countPresent_38 rfl ?_
        exact zz_iret (pc := 39) E hr hlk dX6_countPresent_39 ⟨rfl, by rw [show i = n by omega]⟩
      · exact absurd h13 (by omega)
    | succ j ih =>
      intro i hi
      refine zz_iload (pc := 10) E dX6_countPresent_10 rfl ?_
      refine zz_iload_n (pc := 12) E dX6_countPresent_12 rfl ?_
      refine zn_icmp_ge (pc := 13) (tgt := 38) E dX6_countPresent_13 (by decide) (by omega) (by omega) (fun h13 => ?_) (fun h13 => ?_)
      · exact absurd h13 (by omega)
      · refine zz_aload_n (pc := 16) E dX6_countPresent_16 rfl ?_
        refine zz_iload (pc := 17) E dX6_countPresent_17 rfl ?_
        refine zz_iald (pc := 19) E k (_) (n := n) hk (hF _) rfl (by omega) hn dX6_countPresent_19 ?_
        refine zz_istore (pc := 20) (lv' := [(1, _), (2, _), (3, _), (4, _), (5, _)]) E dX6_countPresent_20 (by decide) rfl ?_
        refine zz_iload (pc := 22) E dX6_countPresent_22 rfl ?_
        refine zz_bipush (pc := 24) (v := -9) E dX6_countPresent_24 (by decide) ?_
        refine zz_icmp_eq (pc := 26) (tgt := 32) E dX6_countPresent_26 (by decide) (fun h26 => ?_) (fun h26 => ?_)
        · refine zn_inc (pc := 32) (lv' := [(1, _), (2, _), (3, _), (4, _), (5, _)]) E dX6_countPresent_32 rfl (by decide) rfl ?_
          refine zz_goto (pc := 35) (tgt := 10) E dX6_countPresent_35 (by decide) ?_
          exact zz_to (ih (i + 1) (by omega)) ⟨by rw [zcnt]; first | (rw [if_pos h26]; rfl) | (rw [if_neg h26]; rfl), rfl, rfl, rfl, trivial⟩
        · refine zn_inc (pc := 29) (lv' := [(1, _), (2, _), (3, _), (4, _), (5, _)]) E dX6_countPresent_29 rfl (by decide) rfl ?_
          refine zn_inc (pc := 32) (lv' := [(1, _), (2, _), (3, _), (4, _), (5, _)]) E dX6_countPresent_32 rfl (by decide) rfl ?_
          refine zz_goto (pc := 35) (tgt := 10) E dX6_countPresent_35 (by decide) ?_
          exact zz_to (ih (i + 1) (by omega)) ⟨by rw [zcnt]; first | (rw [if_pos h26]; rfl) | (rw [if_neg h26]; rfl), rfl, rfl, rfl, trivial⟩
  exact zz_to (key n 0 (by omega)) ⟨rfl, rfl, rfl, rfl, trivial⟩

theorem inX6_countRules_X6 : ∀ w ∈ u_ws RX6 TX6 2, w ∈ wsX6_countRules := by decide +kernel
theorem lkX6_countRules_9 : Cond.fieldLink RX6 9 RX6 "rules" "[I" ∈ wsX6_countRules := by decide +kernel
set_option maxHeartbeats 4000000 in
set_option maxRecDepth 100000 in
theorem kkX6_countRules (l : Launch) (G : zz_C) (hJ : zz_J G) (M : zz_M) (k : Nat) (hk : zz_Tb k) : Met l yX6_countRules wsX6_countRules ({ frames := 1, cells := 0, slots := 0, locals := 25 } : Room) (zz_P G M [.ref (G.2.2 k)]) (zz_Qi G (fun r M1 => M1 = M ∧ r = nI (zcnt (M (k + 1)) 18))) 0 0 (zz_A G) := by
  refine zz_start hJ (by decide) rfl (Nat.le_of_ble_eq_true rfl) ?_
  intro p e s m below meth c E hr hlk
  have hts := E.2.2.2.2.1
  show zz_Z p l e (headSpec wsX6_countRules ({ frames := 1, cells := 0, slots := 0, locals := 25 } : Room)).room s m ([.ref (G.2.2 k)] : List Value).toArray below meth c 0 0 (MQ below (zz_Qi G (fun r M1 => M1 = M ∧ r = nI (zcnt (M (k + 1)) 18))) ([.ref (G.2.2 k)] : List Value).toArray s 0 0 (zz_A G)) 1 G (zz_A G) M 0 [(0, .ref (G.2.2 k))] []
  refine zz_aload_n (pc := 0) E dX6_countRules_0 rfl ?_
  refine zz_gf (pc := 1) E k (by have := hk.2.1; omega) (zz_F_tab hk.1) rfl inX6_countRules_X6 0 (by decide) lkX6_countRules_9 (fun _ h => h) rfl dX6_countRules_1 ?_
  refine zz_ciS (pc := 4) E (kkX6_countPresent l G hJ _ _ _ (by have := hk.2.1; omega) (hk.2.2.1 G) (by decide)) (va_cwS 1 hts gX6_countRules_X6_countPresent rfl rfl rfl (by decide +kernel) ⟨Nat.le_of_ble_eq_true rfl, Nat.le_of_ble_eq_true rfl⟩) rfl rfl (Nat.le_of_ble_eq_true rfl) dX6_countRules_4 (fun r4 M4 q4 => ?_)
  obtain ⟨rfl, rfl⟩ := q4
  exact zz_iret (pc := 7) E hr hlk dX6_countRules_7 ⟨rfl, rfl⟩

theorem inX6_countClaims_X6 : ∀ w ∈ u_ws RX6 TX6 2, w ∈ wsX6_countClaims := by decide +kernel
theorem lkX6_countClaims_15 : Cond.fieldLink RX6 15 RX6 "claims" "[I" ∈ wsX6_countClaims := by decide +kernel
set_option maxHeartbeats 4000000 in
set_option maxRecDepth 100000 in
theorem kkX6_countClaims (l : Launch) (G : zz_C) (hJ : zz_J G) (M : zz_M) (k : Nat) (hk : zz_Tb k) : Met l yX6_countClaims wsX6_countClaims ({ frames := 1, cells := 0, slots := 0, locals := 25 } : Room) (zz_P G M [.ref (G.2.2 k)]) (zz_Qi G (fun r M1 => M1 = M ∧ r = nI (zcnt (M (k + 2)) 6))) 0 0 (zz_A G) := by
  refine zz_start hJ (by decide) rfl (Nat.le_of_ble_eq_true rfl) ?_
  intro p e s m below meth c E hr hlk
  have hts := E.2.2.2.2.1
  show zz_Z p l e (headSpec wsX6_countClaims ({ frames := 1, cells := 0, slots := 0, locals := 25 } : Room)).room s m ([.ref (G.2.2 k)] : List Value).toArray below meth c 0 0 (MQ below (zz_Qi G (fun r M1 => M1 = M ∧ r = nI (zcnt (M (k + 2)) 6))) ([.ref (G.2.2 k)] : List Value).toArray s 0 0 (zz_A G)) 1 G (zz_A G) M 0 [(0, .ref (G.2.2 k))] []
  refine zz_aload_n (pc := 0) E dX6_countClaims_0 rfl ?_
  refine zz_gf (pc := 1) E k (by have := hk.2.1; omega) (zz_F_tab hk.1) rfl inX6_countClaims_X6 1 (by decide) lkX6_countClaims_15 (fun _ h => h) rfl dX6_countClaims_1 ?_
  refine zz_ciS (pc := 4) E (kkX6_countPresent l G hJ _ _ _ hk.2.1 (hk.2.2.2 G) (by decide)) (va_cwS 1 hts gX6_countClaims_X6_countPresent rfl rfl rfl (by decide +kernel) ⟨Nat.le_of_ble_eq_true rfl, Nat.le_of_ble_eq_true rfl⟩) rfl rfl (Nat.le_of_ble_eq_true rfl) dX6_countClaims_4 (fun r4 M4 q4 => ?_)
  obtain ⟨rfl, rfl⟩ := q4
  exact zz_iret (pc := 7) E hr hlk dX6_countClaims_7 ⟨rfl, rfl⟩

theorem inX6_copyFrom_X6 : ∀ w ∈ u_ws RX6 TX6 2, w ∈ wsX6_copyFrom := by decide +kernel
theorem lkX6_copyFrom_9 : Cond.fieldLink RX6 9 RX6 "rules" "[I" ∈ wsX6_copyFrom := by decide +kernel
theorem mmX6_copyFrom_35_ml : Cond.methodLink RX6 35 arraycopyName ∈ wsX6_copyFrom := by decide +kernel
theorem mmX6_copyFrom_35_na : Cond.native arraycopyName ∈ wsX6_copyFrom := by decide +kernel
theorem mmX6_copyFrom_35_st : Cond.static arraycopyName ∈ wsX6_copyFrom := by decide +kernel
theorem mmX6_copyFrom_35_in : Cond.initialized "java/lang/System" ∈ wsX6_copyFrom := by decide +kernel
theorem lkX6_copyFrom_15 : Cond.fieldLink RX6 15 RX6 "claims" "[I" ∈ wsX6_copyFrom := by decide +kernel
set_option maxHeartbeats 4000000 in
set_option maxRecDepth 100000 in
theorem kkX6_copyFrom (l : Launch) (G : zz_C) (hJ : zz_J G) (M : zz_M) (k : Nat) (hk : zz_Tb k) (k2 : Nat) (hk2 : zz_Tb k2) (S : Nat → Option Nat) (hS : ztab M k2 S) (hne : k2 + 2 < k ∨ k + 2 < k2) : Met l yX6_copyFrom wsX6_copyFrom ({ frames := 1, cells := 0, slots := 0, locals := 60 } : Room) (zz_P G M [.ref (G.2.2 k), .ref (G.2.2 k2)]) (zz_Qv G (fun M1 => zfr [k + 1, k + 2] M M1 ∧ ztab M1 k S)) 0 0 (zz_A G) := by
  refine zz_start hJ (by decide) rfl (Nat.le_of_ble_eq_true rfl) ?_
  intro p e s m below meth c E hr hlk
  have hts := E.2.2.2.2.1
  show zz_Z p l e (headSpec wsX6_copyFrom ({ frames := 1, cells := 0, slots := 0, locals := 60 } : Room)).room s m ([.ref (G.2.2 k), .ref (G.2.2 k2)] : List Value).toArray below meth c 0 0 (MQ below (zz_Qv G (fun M1 => zfr [k + 1, k + 2] M M1 ∧ ztab M1 k S)) ([.ref (G.2.2 k), .ref (G.2.2 k2)] : List Value).toArray s 0 0 (zz_A G)) 2 G (zz_A G) M 0 [(0, .ref (G.2.2 k)), (1, .ref (G.2.2 k2))] []
  refine zz_aload_n (pc := 0) E dX6_copyFrom_0 rfl ?_
  refine zz_gf (pc := 1) E k2 (by have := hk2.2.1; omega) (zz_F_tab hk2.1) rfl inX6_copyFrom_X6 0 (by decide) lkX6_copyFrom_9 (fun _ h => h) rfl dX6_copyFrom_1 ?_
  refine zz_iconst (pc := 4) (v := nI 0) E dX6_copyFrom_4 (by decide) ?_
  refine zz_aload_n (pc := 5) E dX6_copyFrom_5 rfl ?_
  refine zz_gf (pc := 6) E k (by have := hk.2.1; omega) (zz_F_tab hk.1) rfl inX6_copyFrom_X6 0 (by decide) lkX6_copyFrom_9 (fun _ h => h) rfl dX6_copyFrom_6 ?_
  refine zz_iconst (pc := 9) (v := nI 0) E dX6_copyFrom_9 (by decide) ?_
  refine zz_aload_n (pc := 10) E dX6_copyFrom_10 rfl ?_
  refine zz_gf (pc := 11) E k (by have := hk.2.1; omega) (zz_F_tab hk.1) rfl inX6_copyFrom_X6 0 (by decide) lkX6_copyFrom_9 (fun _ h => h) rfl dX6_copyFrom_11 ?_
  refine zz_alen (pc := 14) E (k + 1) (n := 18) (by have := hk.2.1; omega) (hk.2.2.1 G _) dX6_copyFrom_14 ?_
  refine zz_acopy (pc := 15) E (k2 + 1) (k + 1) (n0 := 18) (n1 := 18) (by have := hk2.2.1; omega) (by have := hk.2.1; omega) (hk2.2.2.1 G _) (hk.2.2.1 G) rfl rfl rfl (by decide) (by decide) (by decide) (by decide) mmX6_copyFrom_35_ml mmX6_copyFrom_35_na mmX6_copyFrom_35_st mmX6_copyFrom_35_in (by decide) (Nat.le_of_ble_eq_true rfl) dX6_copyFrom_15 ?_
  refine zz_aload_n (pc := 18) E dX6_copyFrom_18 rfl ?_
  refine zz_gf (pc := 19) E k2 (by have := hk2.2.1; omega) (zz_F_tab hk2.1) rfl inX6_copyFrom_X6 1 (by decide) lkX6_copyFrom_15 (fun _ h => h) rfl dX6_copyFrom_19 ?_
  refine zz_iconst (pc := 22) (v := nI 0) E dX6_copyFrom_22 (by decide) ?_
  refine zz_aload_n (pc := 23) E dX6_copyFrom_23 rfl ?_
  refine zz_gf (pc := 24) E k (by have := hk.2.1; omega) (zz_F_tab hk.1) rfl inX6_copyFrom_X6 1 (by decide) lkX6_copyFrom_15 (fun _ h => h) rfl dX6_copyFrom_24 ?_
  refine zz_iconst (pc := 27) (v := nI 0) E dX6_copyFrom_27 (by decide) ?_
  refine zz_aload_n (pc := 28) E dX6_copyFrom_28 rfl ?_
  refine zz_gf (pc := 29) E k (by have := hk.2.1; omega) (zz_F_tab hk.1) rfl inX6_copyFrom_X6 1 (by decide) lkX6_copyFrom_15 (fun _ h => h) rfl dX6_copyFrom_29 ?_
  refine zz_alen (pc := 32) E (k + 2) (n := 6) hk.2.1 (hk.2.2.2 G _) dX6_copyFrom_32 ?_
  refine zz_acopy (pc := 33) E (k2 + 2) (k + 2) (n0 := 6) (n1 := 6) hk2.2.1 hk.2.1 (hk2.2.2.2 G _) (hk.2.2.2 G) rfl rfl rfl (by decide) (by decide) (by decide) (by decide) mmX6_copyFrom_35_ml mmX6_copyFrom_35_na mmX6_copyFrom_35_st mmX6_copyFrom_35_in (by decide) (Nat.le_of_ble_eq_true rfl) dX6_copyFrom_33 ?_
  exact zz_vret (pc := 36) E hr hlk dX6_copyFrom_36 ⟨zfr_up (zfr_up (zfr_rf _ _) (by simp)) (by simp), fun i hi => by rw [zz_up_ne _ _ (by omega), zz_up_same]; unfold va_cpy; rw [if_pos (by omega), show 0 + (i - 0) = i by omega]; exact hS.1 i hi, fun i hi => by rw [zz_up_same]; unfold va_cpy; rw [if_pos (by omega), show 0 + (i - 0) = i by omega, zz_up_ne _ _ (by omega)]; exact hS.2 i hi⟩
end
section
theorem zfr_ct {ks k1 k2 : List Nat} {M M1 M2 : zz_M} (h1 : zfr k1 M M1) (h2 : zfr k2 M1 M2) (s1 : ∀ j ∈ k1, j ∈ ks) (s2 : ∀ j ∈ k2, j ∈ ks) : zfr ks M M2 := fun j hj => by
  rw [h2 j (fun q => hj (s2 j q)), h1 j (fun q => hj (s1 j q))]
theorem zdf_lt : ∀ (m f n : Nat), (zdf f n).length ≤ m → m < f → n < 10 ^ m
  | 0, f, n, h, hf => by
    obtain ⟨f, rfl⟩ : ∃ g, f = g + 1 := ⟨f - 1, by omega⟩
    rw [zdf] at h
    by_cases h0 : n = 0
    · subst h0; decide
    · rw [if_neg h0] at h; simp at h
  | m + 1, f, n, h, hf => by
    obtain ⟨f, rfl⟩ : ∃ g, f = g + 1 := ⟨f - 1, by omega⟩
    rw [zdf] at h
    by_cases h0 : n = 0
    · subst h0; exact Nat.pos_of_ne_zero (by simp)
    · rw [if_neg h0, List.length_cons] at h
      have := zdf_lt m f (n / 10) (by omega) (by omega)
      rw [Nat.pow_succ]
      omega
theorem zok_lt {n kinds most : Nat} (h : zok n kinds most = true) (hm : most < 20) : n < 10 ^ most := by
  unfold zok at h
  simp only [Bool.and_eq_true, decide_eq_true_eq] at h
  exact zdf_lt most 20 n h.2 hm
theorem zok_len {n kinds most : Nat} (h : zok n kinds most = true) : (zd n).length ≤ most := by
  unfold zok at h
  simp only [Bool.and_eq_true, decide_eq_true_eq] at h
  exact h.2
theorem zr_lt {n kinds most : Nat} (h : zok n kinds most = true) : ∀ x ∈ zr n, x < kinds := by
  intro x hx
  unfold zok at h
  simp only [Bool.and_eq_true, decide_eq_true_eq, List.all_eq_true] at h
  unfold zr at hx
  rw [List.mem_reverse, List.mem_map] at hx
  obtain ⟨d, hd, rfl⟩ := hx
  have := h.1 d hd
  omega
/-- the state of rules and claims is well-formed -/
def zV (S : Nat → Option Nat) : Prop := (∀ i, i < 18 → ∀ a, S i = some a → zok a 6 3 = true) ∧ ∀ s, s < 6 → ∀ a, S (18 + s) = some a → zok a s 3 = true ∧ a ≠ 0
/-- what was ahead of the last changes, the newest first, in the ring -/
def zpast (M : zz_M) (nx : Nat) (hs : List (Nat → Option Nat)) : Prop := M 4 0 = nI nx ∧ nx < 20 ∧ M 4 1 = nI hs.length ∧ hs.length ≤ 20 ∧ ∀ (j : Nat) (S : Nat → Option Nat), hs[j]? = some S → ztab M (40 + 3 * ((nx + 19 - j) % 20)) S
def zKP : List Nat := 4 :: (List.range 60).map (fun i => 40 + i)
theorem zKP_mem {i : Nat} (h : i < 60) : 40 + i ∈ zKP := List.mem_cons_of_mem _ (List.mem_map.mpr ⟨i, List.mem_range.mpr h, rfl⟩)
theorem zpast_fr {ks : List Nat} {M M1 : zz_M} {nx : Nat} {hs : List (Nat → Option Nat)} (h : zpast M nx hs) (hf : zfr ks M M1) (hk : ∀ j ∈ ks, j ∉ zKP) : zpast M1 nx hs := by
  have e4 : M1 4 = M 4 := hf 4 (fun q => hk 4 q (by decide))
  refine ⟨by rw [e4]; exact h.1, h.2.1, by rw [e4]; exact h.2.2.1, h.2.2.2.1, fun j S hj => ?_⟩
  have hlt : (nx + 19 - j) % 20 < 20 := Nat.mod_lt _ (by decide)
  refine ztab_fr (h.2.2.2.2 j S hj) hf (fun q => hk _ q ?_) (fun q => hk _ q ?_)
  · rw [show 40 + 3 * ((nx + 19 - j) % 20) + 1 = 40 + (3 * ((nx + 19 - j) % 20) + 1) by omega]; exact zKP_mem (by omega)
  · rw [show 40 + 3 * ((nx + 19 - j) % 20) + 2 = 40 + (3 * ((nx + 19 - j) % 20) + 2) by omega]; exact zKP_mem (by omega)
theorem zpast_keep {M M2 M1 : zz_M} {nx : Nat} {hs : List (Nat → Option Nat)} {S : Nat → Option Nat} (h : zpast M nx hs) (hf : zfr [40 + 3 * nx + 1, 40 + 3 * nx + 2] M M2) (hw : ztab M2 (40 + 3 * nx) S) (hf2 : zfr [4] M2 M1) (h0 : M1 4 0 = nI ((nx + 1) % 20)) (h1 : M1 4 1 = nI (min (hs.length + 1) 20)) : zpast M1 ((nx + 1) % 20) ((S :: hs).take 20) := by
  obtain ⟨g1, g2, g3, g4, g5⟩ := h
  refine ⟨h0, Nat.mod_lt _ (by decide), by rw [h1, List.length_take, List.length_cons, Nat.min_comm], by rw [List.length_take]; omega, fun j T hj => ?_⟩
  rw [List.getElem?_take] at hj
  by_cases hj20 : j < 20
  · rw [if_pos hj20] at hj
    cases j with
    | zero =>
      have e : ((nx + 1) % 20 + 19 - 0) % 20 = nx := by omega
      rw [e]
      rw [List.getElem?_cons_zero] at hj
      cases hj
      exact ztab_fr hw hf2 (by simp; omega) (by simp; omega)
    | succ j =>
      rw [List.getElem?_cons_succ] at hj
      have hjl : j < hs.length := (List.getElem?_eq_some_iff.mp hj).1
      have e : ((nx + 1) % 20 + 19 - (j + 1)) % 20 = (nx + 19 - j) % 20 := by omega
      rw [e]
      have hne : (nx + 19 - j) % 20 ≠ nx := by omega
      exact ztab_fr (ztab_fr (g5 j T hj) hf (by simp; omega) (by simp; omega)) hf2 (by simp; omega) (by simp; omega)
  · rw [if_neg hj20] at hj
    cases hj
theorem zpast_drop {M M1 : zz_M} {nx k : Nat} {hs : List (Nat → Option Nat)} (h : zpast M nx hs) (hk : k ≤ hs.length) (hf : zfr [4, 2, 3] M M1) (h0 : M1 4 0 = nI ((nx + 20 - k) % 20)) (h1 : M1 4 1 = nI (hs.length - k)) : zpast M1 ((nx + 20 - k) % 20) (hs.drop k) := by
  obtain ⟨g1, g2, g3, g4, g5⟩ := h
  refine ⟨h0, Nat.mod_lt _ (by decide), by rw [h1, List.length_drop], by rw [List.length_drop]; omega, fun j T hj => ?_⟩
  rw [List.getElem?_drop] at hj
  have hjl : k + j < hs.length := (List.getElem?_eq_some_iff.mp hj).1
  have e : ((nx + 20 - k) % 20 + 19 - j) % 20 = (nx + 19 - (k + j)) % 20 := by omega
  rw [e]
  exact ztab_fr (g5 _ T hj) hf (by simp; omega) (by simp; omega)

theorem inX3_kept_X3 : ∀ w ∈ u_ws RX3 TX3 3, w ∈ wsX3_kept := by decide +kernel
theorem lkX3_kept_18 : Cond.fieldLink RX3 18 RX3 "kept" "I" ∈ wsX3_kept := by decide +kernel
set_option maxHeartbeats 4000000 in
set_option maxRecDepth 100000 in
theorem kkX3_kept (l : Launch) (G : zz_C) (hJ : zz_J G) (M : zz_M)  : Met l yX3_kept wsX3_kept ({ frames := 0, cells := 0, slots := 0, locals := 0 } : Room) (zz_P G M [.ref (G.2.2 4)]) (zz_Qi G (fun r M1 => M1 = M ∧ r = M 4 1)) 0 0 (zz_A G) := by
  refine zz_start hJ (by decide) rfl (Nat.le_of_ble_eq_true rfl) ?_
  intro p e s m below meth c E hr hlk
  have hts := E.2.2.2.2.1
  show zz_Z p l e (headSpec wsX3_kept ({ frames := 0, cells := 0, slots := 0, locals := 0 } : Room)).room s m ([.ref (G.2.2 4)] : List Value).toArray below meth c 0 0 (MQ below (zz_Qi G (fun r M1 => M1 = M ∧ r = M 4 1)) ([.ref (G.2.2 4)] : List Value).toArray s 0 0 (zz_A G)) 1 G (zz_A G) M 0 [(0, .ref (G.2.2 4))] []
  refine zz_aload_n (pc := 0) E dX3_kept_0 rfl ?_
  refine zz_gf (pc := 1) E 4 (by decide) rfl rfl inX3_kept_X3 2 (by decide) lkX3_kept_18 (fun _ h => h) rfl dX3_kept_1 ?_
  exact zz_iret (pc := 4) E hr hlk dX3_kept_4 ⟨rfl, rfl⟩

theorem inX3_keep_X3 : ∀ w ∈ u_ws RX3 TX3 3, w ∈ wsX3_keep := by decide +kernel
theorem lkX3_keep_11 : Cond.fieldLink RX3 11 RX3 "ahead" "[LFirstSigns$Table;" ∈ wsX3_keep := by decide +kernel
theorem lkX3_keep_22 : Cond.fieldLink RX3 22 RX3 "next" "I" ∈ wsX3_keep := by decide +kernel
theorem lkX3_keep_18 : Cond.fieldLink RX3 18 RX3 "kept" "I" ∈ wsX3_keep := by decide +kernel
theorem mmX3_keep_29_ml : Cond.methodLink RX3 29 Lib.Math.min.name ∈ wsX3_keep := by decide +kernel
theorem mmX3_keep_29_st : Cond.static Lib.Math.min.name ∈ wsX3_keep := by decide +kernel
theorem mmX3_keep_29_in : Cond.initialized "java/lang/Math" ∈ wsX3_keep := by decide +kernel
theorem mmX3_keep_29_co : Cond.code Lib.Math.min.name Lib.Math.min.code 2 (some .int) ∈ wsX3_keep := by decide +kernel
set_option maxHeartbeats 4000000 in
set_option maxRecDepth 100000 in
theorem kkX3_keep (l : Launch) (G : zz_C) (hJ : zz_J G) (M : zz_M) (nx : Nat) (hs : List (Nat → Option Nat)) (S : Nat → Option Nat) (hp : zpast M nx hs) (hS : ztab M 1 S) : Met l yX3_keep wsX3_keep ({ frames := 2, cells := 0, slots := 0, locals := 81 } : Room) (zz_P G M [.ref (G.2.2 4), .ref (G.2.2 1)]) (zz_Qv G (fun M1 => zfr zKP M M1 ∧ zpast M1 ((nx + 1) % 20) ((S :: hs).take 20))) 0 0 (zz_A G) := by
  refine zz_start hJ (by decide) rfl (Nat.le_of_ble_eq_true rfl) ?_
  intro p e s m below meth c E hr hlk
  have hts := E.2.2.2.2.1
  show zz_Z p l e (headSpec wsX3_keep ({ frames := 2, cells := 0, slots := 0, locals := 81 } : Room)).room s m ([.ref (G.2.2 4), .ref (G.2.2 1)] : List Value).toArray below meth c 0 0 (MQ below (zz_Qv G (fun M1 => zfr zKP M M1 ∧ zpast M1 ((nx + 1) % 20) ((S :: hs).take 20))) ([.ref (G.2.2 4), .ref (G.2.2 1)] : List Value).toArray s 0 0 (zz_A G)) 2 G (zz_A G) M 0 [(0, .ref (G.2.2 4)), (1, .ref (G.2.2 1))] []
  obtain ⟨g1, g2, g3, g4, g5⟩ := id hp
  refine zz_aload_n (pc := 0) E dX3_keep_0 rfl ?_
  refine zz_gf (pc := 1) E 4 (by decide) rfl rfl inX3_keep_X3 0 (by decide) lkX3_keep_11 (fun _ h => h) rfl dX3_keep_1 ?_
  refine zz_aload_n (pc := 4) E dX3_keep_4 rfl ?_
  refine zz_gf (pc := 5) E 4 (by decide) rfl rfl inX3_keep_X3 1 (by decide) lkX3_keep_22 (fun _ h => h) rfl dX3_keep_5 ?_
  refine zz_eqi (y := nI nx) g1 ?_
  refine zz_aald (pc := 8) E 5 (nx) (n := 20) (t0 := 2) (f := fun i => G.2.2 (40 + 3 * i)) (by decide) rfl rfl rfl rfl g2 (by decide) dX3_keep_8 ?_
  refine zz_aload_n (pc := 9) E dX3_keep_9 rfl ?_
  refine zz_cvV (pc := 10) E (40 + 3 * nx) (kkX6_copyFrom l G hJ _  _ (zz_Tk g2) 1 zz_T1 S hS (by omega)) (cwV 1 hts gX3_keep_X6_copyFrom rfl rfl rfl (by decide +kernel) ⟨Nat.le_of_ble_eq_true rfl, Nat.le_of_ble_eq_true rfl⟩) (by have := hp.2.1; omega) (zz_F_tab (zz_Tk hp.2.1).1) rfl rfl rfl (Nat.le_of_ble_eq_true rfl) dX3_keep_10 (fun M10 q10 => ?_)
  obtain ⟨f10, w10⟩ := q10
  have e4 : M10 4 = M 4 := f10 4 (by simp; omega)
  rw [← e4] at g1 g3
  refine zz_aload_n (pc := 13) E dX3_keep_13 rfl ?_
  refine zz_aload_n (pc := 14) E dX3_keep_14 rfl ?_
  refine zz_gf (pc := 15) E 4 (by decide) rfl rfl inX3_keep_X3 1 (by decide) lkX3_keep_22 (fun _ h => h) rfl dX3_keep_15 ?_
  refine zz_eqi (y := nI nx) g1 ?_
  refine zz_iconst (pc := 18) (v := nI 1) E dX3_keep_18 (by decide) ?_
  refine zn_iadd (pc := 19) E dX3_keep_19 ?_
  refine zz_bipush (pc := 20) (v := nI 20) E dX3_keep_20 (by decide) ?_
  refine zn_irem (pc := 22) E dX3_keep_22 (by omega) (by omega) (by omega) ?_
  refine zz_pfj (pc := 23) E 4 0 (by decide) rfl rfl inX3_keep_X3 tyX3 tyX3_ok nmX3 1 (by decide) lkX3_keep_22 (fun _ h => h) rfl rfl (Nat.le_of_ble_eq_true rfl) rfl dX3_keep_23 ?_
  refine zz_aload_n (pc := 26) E dX3_keep_26 rfl ?_
  refine zz_aload_n (pc := 27) E dX3_keep_27 rfl ?_
  refine zz_gf (pc := 28) E 4 (by decide) rfl rfl inX3_keep_X3 2 (by decide) lkX3_keep_18 (fun _ h => h) rfl dX3_keep_28 ?_
  refine zz_eqi (y := nI hs.length) (by rw [zz_up_same]; exact g3) ?_
  refine zz_iconst (pc := 31) (v := nI 1) E dX3_keep_31 (by decide) ?_
  refine zn_iadd (pc := 32) E dX3_keep_32 ?_
  refine zz_bipush (pc := 33) (v := nI 20) E dX3_keep_33 (by decide) ?_
  refine zz_min (rest := []) (pc := 35) E mmX3_keep_29_ml mmX3_keep_29_st mmX3_keep_29_in mmX3_keep_29_co (by decide) (Nat.le_of_ble_eq_true rfl) dX3_keep_35 ?_
  refine zz_eqi (y := nI (min (hs.length + 1) 20)) (zmin_ok (by omega) (by decide)) ?_
  refine zz_pfj (pc := 38) E 4 1 (by decide) rfl rfl inX3_keep_X3 tyX3 tyX3_ok nmX3 2 (by decide) lkX3_keep_18 (fun _ h => h) rfl rfl (Nat.le_of_ble_eq_true rfl) rfl dX3_keep_38 ?_
  exact zz_vret (pc := 41) E hr hlk dX3_keep_41 ⟨zfr_up (zfr_up (zfr_mono f10 (fun j hj => by rcases List.mem_cons.mp hj with rfl | hj; exact zKP_mem (i := 3 * nx + 1) (by omega); rcases List.mem_cons.mp hj with rfl | hj; exact zKP_mem (i := 3 * nx + 2) (by omega); cases hj)) (by decide)) (by decide), zpast_keep hp f10 w10 (zfr_up (zfr_up (zfr_rf _ _) (by simp)) (by simp)) (by rw [zz_up_same, zz_up_same]; rfl) (by rw [zz_up_same]; rfl)⟩

theorem inX3_bringBack_X3 : ∀ w ∈ u_ws RX3 TX3 3, w ∈ wsX3_bringBack := by decide +kernel
theorem lkX3_bringBack_18 : Cond.fieldLink RX3 18 RX3 "kept" "I" ∈ wsX3_bringBack := by decide +kernel
theorem lkX3_bringBack_22 : Cond.fieldLink RX3 22 RX3 "next" "I" ∈ wsX3_bringBack := by decide +kernel
theorem lkX3_bringBack_11 : Cond.fieldLink RX3 11 RX3 "ahead" "[LFirstSigns$Table;" ∈ wsX3_bringBack := by decide +kernel
set_option maxHeartbeats 4000000 in
set_option maxRecDepth 100000 in
theorem kkX3_bringBack (l : Launch) (G : zz_C) (hJ : zz_J G) (M : zz_M) (nx : Nat) (hs : List (Nat → Option Nat)) (S : Nat → Option Nat) (k : Nat) (hp : zpast M nx hs) (hS : ztab M 1 S) (hk : k ≤ hs.length) : Met l yX3_bringBack wsX3_bringBack ({ frames := 2, cells := 0, slots := 0, locals := 81 } : Room) (zz_P G M [.ref (G.2.2 4), .ref (G.2.2 1), .int (nI k)]) (zz_Qv G (fun M1 => zfr [4, 2, 3] M M1 ∧ (∃ n2, zpast M1 n2 (hs.drop k)) ∧ ztab M1 1 ((S :: hs).getD k S))) 0 0 (zz_A G) := by
  refine zz_start hJ (by decide) rfl (Nat.le_of_ble_eq_true rfl) ?_
  intro p e s m below meth c E hr hlk
  have hts := E.2.2.2.2.1
  show zz_Z p l e (headSpec wsX3_bringBack ({ frames := 2, cells := 0, slots := 0, locals := 81 } : Room)).room s m ([.ref (G.2.2 4), .ref (G.2.2 1), .int (nI k)] : List Value).toArray below meth c 0 0 (MQ below (zz_Qv G (fun M1 => zfr [4, 2, 3] M M1 ∧ (∃ n2, zpast M1 n2 (hs.drop k)) ∧ ztab M1 1 ((S :: hs).getD k S))) ([.ref (G.2.2 4), .ref (G.2.2 1), .int (nI k)] : List Value).toArray s 0 0 (zz_A G)) 3 G (zz_A G) M 0 [(0, .ref (G.2.2 4)), (1, .ref (G.2.2 1)), (2, .int (nI k))] []
  obtain ⟨g1, g2, g3, g4, g5⟩ := id hp
  refine zz_iload_n (pc := 0) E dX3_bringBack_0 rfl ?_
  refine zn_if_le (pc := 1) (tgt := 51) E dX3_bringBack_1 (by decide) (by omega) (fun h1 => ?_) (fun h1 => ?_)
  · have hk0 : k = 0 := by omega
    subst hk0
    exact zz_vret (pc := 51) E hr hlk dX3_bringBack_51 ⟨zfr_rf _ _, ⟨nx, hp⟩, hS⟩
  · refine zz_iload_n (pc := 4) E dX3_bringBack_4 rfl ?_
    refine zz_aload_n (pc := 5) E dX3_bringBack_5 rfl ?_
    refine zz_gf (pc := 6) E 4 (by decide) rfl rfl inX3_bringBack_X3 2 (by decide) lkX3_bringBack_18 (fun _ h => h) rfl dX3_bringBack_6 ?_
    refine zz_eqi (y := nI hs.length) g3 ?_
    refine zn_icmp_gt (pc := 9) (tgt := 51) E dX3_bringBack_9 (by decide) (by omega) (by omega) (fun h9 => ?_) (fun h9 => ?_)
    · exact absurd h9 (by omega)
    · refine zz_aload_n (pc := 12) E dX3_bringBack_12 rfl ?_
      refine zz_aload_n (pc := 13) E dX3_bringBack_13 rfl ?_
      refine zz_gf (pc := 14) E 4 (by decide) rfl rfl inX3_bringBack_X3 1 (by decide) lkX3_bringBack_22 (fun _ h => h) rfl dX3_bringBack_14 ?_
      refine zz_eqi (y := nI nx) g1 ?_
      refine zz_bipush (pc := 17) (v := nI 20) E dX3_bringBack_17 (by decide) ?_
      refine zn_iadd (pc := 19) E dX3_bringBack_19 ?_
      refine zz_iload_n (pc := 20) E dX3_bringBack_20 rfl ?_
      refine zn_isub (pc := 21) E dX3_bringBack_21 (by omega) ?_
      refine zz_bipush (pc := 22) (v := nI 20) E dX3_bringBack_22 (by decide) ?_
      refine zn_irem (pc := 24) E dX3_bringBack_24 (by omega) (by omega) (by omega) ?_
      refine zz_pfj (pc := 25) E 4 0 (by decide) rfl rfl inX3_bringBack_X3 tyX3 tyX3_ok nmX3 1 (by decide) lkX3_bringBack_22 (fun _ h => h) rfl rfl (Nat.le_of_ble_eq_true rfl) rfl dX3_bringBack_25 ?_
      refine zz_aload_n (pc := 28) E dX3_bringBack_28 rfl ?_
      refine zz_dup (pc := 29) E dX3_bringBack_29 rfl ?_
      refine zz_gf (pc := 30) E 4 (by decide) rfl rfl inX3_bringBack_X3 2 (by decide) lkX3_bringBack_18 (fun _ h => h) rfl dX3_bringBack_30 ?_
      refine zz_eqi (y := nI hs.length) (by rw [zz_up_same]; exact g3) ?_
      refine zz_iload_n (pc := 33) E dX3_bringBack_33 rfl ?_
      refine zn_isub (pc := 34) E dX3_bringBack_34 (by omega) ?_
      refine zz_pfj (pc := 35) E 4 1 (by decide) rfl rfl inX3_bringBack_X3 tyX3 tyX3_ok nmX3 2 (by decide) lkX3_bringBack_18 (fun _ h => h) rfl rfl (Nat.le_of_ble_eq_true rfl) rfl dX3_bringBack_35 ?_
      generalize hM2 : zz_up _ 4 _ = M2
      have f2 : zfr [4] M M2 := by rw [← hM2]; exact zfr_up (zfr_up (zfr_rf _ _) (by simp)) (by simp)
      have a0 : M2 4 0 = nI ((nx + 20 - k) % 20) := by rw [← hM2, zz_up_same, zz_up_same]; rfl
      have a1 : M2 4 1 = nI (hs.length - k) := by rw [← hM2, zz_up_same]; rfl
      clear hM2
      obtain ⟨T, hT⟩ : ∃ T, hs[k - 1]? = some T := ⟨_, List.getElem?_eq_getElem (by omega)⟩
      have hT2 := g5 _ T hT
      rw [show (nx + 19 - (k - 1)) % 20 = (nx + 20 - k) % 20 by omega] at hT2
      have hmod : (nx + 20 - k) % 20 < 20 := Nat.mod_lt _ (by decide)
      have hT3 : ztab M2 (40 + 3 * ((nx + 20 - k) % 20)) T := ztab_fr hT2 f2 (by simp; omega) (by simp; omega)
      refine zz_aload_n (pc := 38) E dX3_bringBack_38 rfl ?_
      refine zz_aload_n (pc := 39) E dX3_bringBack_39 rfl ?_
      refine zz_gf (pc := 40) E 4 (by decide) rfl rfl inX3_bringBack_X3 0 (by decide) lkX3_bringBack_11 (fun _ h => h) rfl dX3_bringBack_40 ?_
      refine zz_aload_n (pc := 43) E dX3_bringBack_43 rfl ?_
      refine zz_gf (pc := 44) E 4 (by decide) rfl rfl inX3_bringBack_X3 1 (by decide) lkX3_bringBack_22 (fun _ h => h) rfl dX3_bringBack_44 ?_
      refine zz_eqi (y := nI ((nx + 20 - k) % 20)) a0 ?_
      refine zz_aald (pc := 47) E 5 ((nx + 20 - k) % 20) (n := 20) (t0 := 2) (f := fun i => G.2.2 (40 + 3 * i)) (by decide) rfl rfl rfl rfl hmod (by decide) dX3_bringBack_47 ?_
      refine zz_cvV (pc := 48) E 1 (kkX6_copyFrom l G hJ _  1 zz_T1 _ (zz_Tk hmod) T hT3 (by omega)) (cwV 1 hts gX3_bringBack_X6_copyFrom rfl rfl rfl (by decide +kernel) ⟨Nat.le_of_ble_eq_true rfl, Nat.le_of_ble_eq_true rfl⟩) (by decide) rfl rfl rfl rfl (Nat.le_of_ble_eq_true rfl) dX3_bringBack_48 (fun M48 q48 => ?_)
      obtain ⟨f48, w48⟩ := q48
      exact zz_vret (pc := 51) E hr hlk dX3_bringBack_51 ⟨zfr_ct f2 f48 (by simp) (by simp), ⟨_, zpast_drop hp hk (zfr_ct f2 f48 (by simp) (by simp)) (by rw [f48 4 (by decide)]; exact a0) (by rw [f48 4 (by decide)]; exact a1)⟩, by have e : (S :: hs).getD k S = T := by { obtain ⟨k, rfl⟩ : ∃ q, k = q + 1 := ⟨k - 1, by omega⟩; rw [List.getD_eq_getElem?_getD, List.getElem?_cons_succ]; rw [Nat.add_sub_cancel] at hT; rw [hT]; rfl }; rw [e]; exact w48⟩
end
section
/-! a row reads letters -/
def zstep (S : Nat → Option Nat) (L : List Nat) (b : Nat) : Option (List Nat) := match L with
  | [] => none
  | x :: t => (S (3 * x + b)).map (fun r => zr r ++ t)
/-- how many letters are read, and what is left -/
def zrd (S : Nat → Option Nat) : List Nat → List Nat → Nat × List Nat
  | L, [] => (0, L)
  | L, b :: ls => match zstep S L b with
    | none => (0, L)
    | some L1 => ((zrd S L1 ls).1 + 1, (zrd S L1 ls).2)
theorem zstep_ok {S : Nat → Option Nat} (hV : zV S) {L L1 : List Nat} {b : Nat} (hb : b < 3) (hL : ∀ x ∈ L, x < 6) (h : zstep S L b = some L1) : (∀ x ∈ L1, x < 6) ∧ L1.length ≤ L.length + 2 := by
  cases L with
  | nil => cases h
  | cons x t =>
    have h : (S (3 * x + b)).map (fun r => zr r ++ t) = some L1 := h
    have hx : x < 6 := hL x List.mem_cons_self
    cases hs : S (3 * x + b) with
    | none => rw [hs] at h; cases h
    | some r =>
      rw [hs] at h
      cases h
      have hz := hV.1 _ (by omega) r hs
      refine ⟨fun y hy => ?_, ?_⟩
      · rcases List.mem_append.mp hy with hy | hy
        · exact zr_lt hz y hy
        · exact hL y (List.mem_cons_of_mem _ hy)
      · rw [List.length_append, zr_len, List.length_cons]
        have := zok_len hz
        omega
theorem zo_m9 {o : Option Nat} (h : ∀ a, o = some a → a < 2 ^ 31) : zo o = -9 ↔ o = none := by
  cases o with
  | none => exact ⟨fun _ => rfl, fun _ => rfl⟩
  | some a =>
    refine ⟨fun q => ?_, fun q => by cases q⟩
    exfalso
    have hq : nI a = -9 := q
    have e := congrArg Int32.toInt hq
    rw [nI_toInt (h a rfl), show (-9 : Int32).toInt = -9 by decide] at e
    omega
theorem zV_lt {S : Nat → Option Nat} (hV : zV S) {i : Nat} (hi : i < 18) {a : Nat} (h : S i = some a) : a < 1000 := zok_lt (hV.1 i hi a h) (by decide)
theorem zV_lt2 {S : Nat → Option Nat} (hV : zV S) {i : Nat} (hi : i < 6) {a : Nat} (h : S (18 + i) = some a) : a < 1000 := zok_lt (hV.2 i hi a h).1 (by decide)
theorem zrd_le (S : Nat → Option Nat) : ∀ (ls L : List Nat), (zrd S L ls).1 ≤ ls.length
  | [], L => Nat.le_refl _
  | b :: ls, L => by
    rw [zrd]
    cases h : zstep S L b with
    | none => exact Nat.zero_le _
    | some L1 =>
      show (zrd S L1 ls).1 + 1 ≤ ls.length + 1
      have := zrd_le S ls L1
      omega

theorem inX4_start_X4 : ∀ w ∈ u_ws RX4 TX4 2, w ∈ wsX4_start := by decide +kernel
theorem lkX4_start_14 : Cond.fieldLink RX4 14 RX4 "left" "LFirstSigns$Row;" ∈ wsX4_start := by decide +kernel
set_option maxHeartbeats 4000000 in
set_option maxRecDepth 100000 in
theorem kkX4_start (l : Launch) (G : zz_C) (hJ : zz_J G) (M : zz_M) (a kn : Nat) (hz : zok a kn 20 = true) (ha : a < 2 ^ 31) (hc : (zd a).length ≤ 33) : Met l yX4_start wsX4_start ({ frames := 2, cells := 0, slots := 0, locals := 45 } : Room) (zz_P G M [.ref (G.2.2 6), .int (nI a)]) (zz_Qv G (fun M1 => zfr [7, 8] M M1 ∧ zrow M1 7 33 (zr a))) 0 0 (zz_A G) := by
  refine zz_start hJ (by decide) rfl (Nat.le_of_ble_eq_true rfl) ?_
  intro p e s m below meth c E hr hlk
  have hts := E.2.2.2.2.1
  show zz_Z p l e (headSpec wsX4_start ({ frames := 2, cells := 0, slots := 0, locals := 45 } : Room)).room s m ([.ref (G.2.2 6), .int (nI a)] : List Value).toArray below meth c 0 0 (MQ below (zz_Qv G (fun M1 => zfr [7, 8] M M1 ∧ zrow M1 7 33 (zr a))) ([.ref (G.2.2 6), .int (nI a)] : List Value).toArray s 0 0 (zz_A G)) 2 G (zz_A G) M 0 [(0, .ref (G.2.2 6)), (1, .int (nI a))] []
  refine zz_aload_n (pc := 0) E dX4_start_0 rfl ?_
  refine zz_gf (pc := 1) E 6 (by decide) rfl rfl inX4_start_X4 0 (by decide) lkX4_start_14 (fun _ h => h) rfl dX4_start_1 ?_
  refine zz_cvV (pc := 4) E 7 (kkX5_clear l G hJ _ _ _ zz_R7) (cwV 0 hts gX4_start_X5_clear rfl rfl rfl (by decide +kernel) ⟨Nat.le_of_ble_eq_true rfl, Nat.le_of_ble_eq_true rfl⟩) (by decide) rfl rfl rfl rfl (Nat.le_of_ble_eq_true rfl) dX4_start_4 (fun M4 q4 => ?_)
  obtain ⟨f4, w4⟩ := q4
  refine zz_aload_n (pc := 7) E dX4_start_7 rfl ?_
  refine zz_gf (pc := 8) E 6 (by decide) rfl rfl inX4_start_X4 0 (by decide) lkX4_start_14 (fun _ h => h) rfl dX4_start_8 ?_
  refine zz_iload_n (pc := 11) E dX4_start_11 rfl ?_
  refine zn_i2l (pc := 12) E dX4_start_12 (by omega) ?_
  refine zz_cvV (pc := 13) E 7 (kkX5_putRowAhead l G hJ _ _ _ zz_R7 _ _ _ w4 hz (by omega) (by rw [List.length_nil]; omega)) (cwV 1 hts gX4_start_X5_putRowAhead rfl rfl rfl (by decide +kernel) ⟨Nat.le_of_ble_eq_true rfl, Nat.le_of_ble_eq_true rfl⟩) (by decide) rfl rfl rfl rfl (Nat.le_of_ble_eq_true rfl) dX4_start_13 (fun M13 q13 => ?_)
  obtain ⟨f13, w13⟩ := q13
  exact zz_vret (pc := 16) E hr hlk dX4_start_16 ⟨zfr_ct f4 f13 (by simp) (by simp), by rw [List.append_nil] at w13; exact w13⟩

theorem inX4_step_X4 : ∀ w ∈ u_ws RX4 TX4 2, w ∈ wsX4_step := by decide +kernel
theorem lkX4_step_14 : Cond.fieldLink RX4 14 RX4 "left" "LFirstSigns$Row;" ∈ wsX4_step := by decide +kernel
set_option maxHeartbeats 4000000 in
set_option maxRecDepth 100000 in
theorem kkX4_step (l : Launch) (G : zz_C) (hJ : zz_J G) (M : zz_M) (S : Nat → Option Nat) (L : List Nat) (b : Nat) (hV : zV S) (hS : ztab M 1 S) (hL : zrow M 7 33 L) (hb : b < 3) (h6 : ∀ x ∈ L, x < 6) (hc : L.length + 2 ≤ 33) : Met l yX4_step wsX4_step ({ frames := 2, cells := 0, slots := 0, locals := 45 } : Room) (zz_P G M [.ref (G.2.2 6), .ref (G.2.2 1), .int (nI b)]) (zz_Qi G (fun r M1 => zfr [7, 8] M M1 ∧ r = zz_b (zstep S L b).isSome ∧ zrow M1 7 33 ((zstep S L b).getD L))) 0 0 (zz_A G) := by
  refine zz_start hJ (by decide) rfl (Nat.le_of_ble_eq_true rfl) ?_
  intro p e s m below meth c E hr hlk
  have hts := E.2.2.2.2.1
  show zz_Z p l e (headSpec wsX4_step ({ frames := 2, cells := 0, slots := 0, locals := 45 } : Room)).room s m ([.ref (G.2.2 6), .ref (G.2.2 1), .int (nI b)] : List Value).toArray below meth c 0 0 (MQ below (zz_Qi G (fun r M1 => zfr [7, 8] M M1 ∧ r = zz_b (zstep S L b).isSome ∧ zrow M1 7 33 ((zstep S L b).getD L))) ([.ref (G.2.2 6), .ref (G.2.2 1), .int (nI b)] : List Value).toArray s 0 0 (zz_A G)) 4 G (zz_A G) M 0 [(0, .ref (G.2.2 6)), (1, .ref (G.2.2 1)), (2, .int (nI b))] []
  have hrr : zrl M 1 (zo (L[0]?)) (nI b) = zo ((L[0]?).bind (fun x => S (3 * x + b))) := by
    cases L with
    | nil => exact zrl_m9
    | cons x t =>
      have hx := h6 x List.mem_cons_self
      show zrl M 1 (nI x) (nI b) = zo (S (3 * x + b))
      rw [zrl_nI hx hb]
      exact hS.1 _ (by omega)
  have hlt : ∀ a, (L[0]?).bind (fun x => S (3 * x + b)) = some a → a < 2 ^ 31 := by
    intro a ha
    cases L with
    | nil => cases ha
    | cons x t =>
      have hx := h6 x List.mem_cons_self
      have := zV_lt hV (i := 3 * x + b) (by omega) ha
      omega
  refine zz_aload_n (pc := 0) E dX4_step_0 rfl ?_
  refine zz_aload_n (pc := 1) E dX4_step_1 rfl ?_
  refine zz_gf (pc := 2) E 6 (by decide) rfl rfl inX4_step_X4 0 (by decide) lkX4_step_14 (fun _ h => h) rfl dX4_step_2 ?_
  refine zz_iconst (pc := 5) (v := nI 0) E dX4_step_5 (by decide) ?_
  refine zz_ciV (pc := 6) E 7 (kkX5_fromFirst l G hJ _ _ _ zz_R7 0 L hL (by decide)) (cwV 1 hts gX4_step_X5_fromFirst rfl rfl rfl (by decide +kernel) ⟨Nat.le_of_ble_eq_true rfl, Nat.le_of_ble_eq_true rfl⟩) (by decide) rfl rfl rfl rfl (Nat.le_of_ble_eq_true rfl) dX4_step_6 (fun r6 M6 q6 => ?_)
  obtain ⟨rfl, rfl⟩ := q6
  refine zz_iload_n (pc := 9) E dX4_step_9 rfl ?_
  refine zz_ciV (pc := 10) E 1 (kkX6_ruleOf l G hJ _ _ zz_T1 _ _) (cwV 2 hts gX4_step_X6_ruleOf rfl rfl rfl (by decide +kernel) ⟨Nat.le_of_ble_eq_true rfl, Nat.le_of_ble_eq_true rfl⟩) (by decide) rfl rfl rfl rfl (Nat.le_of_ble_eq_true rfl) dX4_step_10 (fun r10 M10 q10 => ?_)
  obtain ⟨rfl, rfl⟩ := q10
  refine zz_eqi (y := zo ((L[0]?).bind (fun x => S (3 * x + b)))) hrr ?_
  refine zz_istore_n (pc := 13) (lv' := [(0, _), (1, _), (2, _), (3, _)]) E dX4_step_13 (by decide) rfl ?_
  refine zz_iload_n (pc := 14) E dX4_step_14 rfl ?_
  refine zz_bipush (pc := 15) (v := -9) E dX4_step_15 (by decide) ?_
  refine zz_icmp_ne (pc := 17) (tgt := 22) E dX4_step_17 (by decide) (fun h17 => ?_) (fun h17 => ?_)
  · obtain ⟨x, t, a, rfl, ha⟩ : ∃ x t a, L = x :: t ∧ S (3 * x + b) = some a := by
      cases L with
      | nil => exact absurd rfl h17
      | cons x t =>
        cases hs : S (3 * x + b) with
        | none => exact absurd (by show zo (S (3 * x + b)) = -9; rw [hs]; rfl) h17
        | some a => exact ⟨x, t, a, rfl, hs⟩
    have hx := h6 x List.mem_cons_self
    have hza := hV.1 (3 * x + b) (by omega) a ha
    have ha1 := zV_lt hV (i := 3 * x + b) (by omega) ha
    have hla := zok_len hza
    rw [List.length_cons] at hc
    refine zz_aload_n (pc := 22) E dX4_step_22 rfl ?_
    refine zz_gf (pc := 23) E 6 (by decide) rfl rfl inX4_step_X4 0 (by decide) lkX4_step_14 (fun _ h => h) rfl dX4_step_23 ?_
    refine zz_cvV (pc := 26) E 7 (kkX5_dropFirst l G hJ _ _ _ zz_R7 _ hL) (cwV 0 hts gX4_step_X5_dropFirst rfl rfl rfl (by decide +kernel) ⟨Nat.le_of_ble_eq_true rfl, Nat.le_of_ble_eq_true rfl⟩) (by decide) rfl rfl rfl rfl (Nat.le_of_ble_eq_true rfl) dX4_step_26 (fun M26 q26 => ?_)
    obtain ⟨f26, w26⟩ := q26
    refine zz_aload_n (pc := 29) E dX4_step_29 rfl ?_
    refine zz_gf (pc := 30) E 6 (by decide) rfl rfl inX4_step_X4 0 (by decide) lkX4_step_14 (fun _ h => h) rfl dX4_step_30 ?_
    refine zz_iload_n (pc := 33) E dX4_step_33 rfl ?_
    refine zz_eqi (y := nI a) (by show zo (S (3 * x + b)) = nI a; rw [ha]; rfl) ?_
    refine zn_i2l (pc := 34) E dX4_step_34 (by omega) ?_
    refine zz_cvV (pc := 35) E 7 (kkX5_putRowAhead l G hJ _ _ _ zz_R7 _ _ _ w26 (zok_mono hza (Nat.le_refl 6) (by decide)) (by omega) (by show _ + t.length ≤ 33; omega)) (cwV 1 hts gX4_step_X5_putRowAhead rfl rfl rfl (by decide +kernel) ⟨Nat.le_of_ble_eq_true rfl, Nat.le_of_ble_eq_true rfl⟩) (by decide) rfl rfl rfl rfl (Nat.le_of_ble_eq_true rfl) dX4_step_35 (fun M35 q35 => ?_)
    obtain ⟨f35, w35⟩ := q35
    refine zz_iconst (pc := 38) (v := nI 1) E dX4_step_38 (by decide) ?_
    exact zz_zret (pc := 39) E hr hlk dX4_step_39 (by decide) ⟨zfr_ct f26 f35 (by simp) (by simp), by show nI 1 = zz_b ((S (3 * x + b)).map (fun r => zr r ++ t)).isSome; rw [ha]; rfl, by show zrow M35 7 33 (((S (3 * x + b)).map (fun r => zr r ++ t)).getD _); rw [ha]; exact w35⟩
  · rw [zo_m9 hlt] at h17
    refine zz_iconst (pc := 20) (v := nI 0) E dX4_step_20 (by decide) ?_
    have hn : zstep S L b = none := by
      cases L with
      | nil => rfl
      | cons x t =>
        have h17 : S (3 * x + b) = none := h17
        show (S (3 * x + b)).map (fun r => zr r ++ t) = none
        rw [h17]
        rfl
    exact zz_zret (pc := 21) E hr hlk dX4_step_21 (by decide) ⟨zfr_rf _ _, by rw [hn]; rfl, by rw [hn]; exact hL⟩

theorem inX4_countRead_X4 : ∀ w ∈ u_ws RX4 TX4 2, w ∈ wsX4_countRead := by decide +kernel
theorem lkX4_countRead_20 : Cond.fieldLink RX4 20 RX4 "ahead" "LFirstSigns$Row;" ∈ wsX4_countRead := by decide +kernel
set_option maxHeartbeats 4000000 in
set_option maxRecDepth 100000 in
theorem kkX4_countRead (l : Launch) (G : zz_C) (hJ : zz_J G) (M : zz_M) (S : Nat → Option Nat) (a d : Nat) (hV : zV S) (hS : ztab M 1 S) (ha : zok a 6 9 = true) (hd : zok d 3 12 = true) : Met l yX4_countRead wsX4_countRead ({ frames := 3, cells := 0, slots := 0, locals := 68 } : Room) (zz_P G M [.ref (G.2.2 6), .ref (G.2.2 1), .int (nI a), .long (lN d)]) (zz_Qi G (fun r M1 => zfr [7, 8, 9, 10] M M1 ∧ r = nI (zrd S (zr a) (zr d)).1 ∧ zrow M1 7 33 (zrd S (zr a) (zr d)).2 ∧ zrow M1 9 12 ((zr d).drop (zrd S (zr a) (zr d)).1))) 0 0 (zz_A G) := by
  refine zz_start hJ (by decide) rfl (Nat.le_of_ble_eq_true rfl) ?_
  intro p e s m below meth c E hr hlk
  have hts := E.2.2.2.2.1
  show zz_Z p l e (headSpec wsX4_countRead ({ frames := 3, cells := 0, slots := 0, locals := 68 } : Room)).room s m ([.ref (G.2.2 6), .ref (G.2.2 1), .int (nI a), .long (lN d)] : List Value).toArray below meth c 0 0 (MQ below (zz_Qi G (fun r M1 => zfr [7, 8, 9, 10] M M1 ∧ r = nI (zrd S (zr a) (zr d)).1 ∧ zrow M1 7 33 (zrd S (zr a) (zr d)).2 ∧ zrow M1 9 12 ((zr d).drop (zrd S (zr a) (zr d)).1))) ([.ref (G.2.2 6), .ref (G.2.2 1), .int (nI a), .long (lN d)] : List Value).toArray s 0 0 (zz_A G)) 6 G (zz_A G) M 0 [(0, .ref (G.2.2 6)), (1, .ref (G.2.2 1)), (2, .int (nI a)), (3, .long (lN d))] []
  have ha1 := zok_lt ha (by decide)
  have hd1 := zok_lt hd (by decide)
  have ha2 := zok_len ha
  have hd2 := zok_len hd
  refine zz_aload_n (pc := 0) E dX4_countRead_0 rfl ?_
  refine zz_iload_n (pc := 1) E dX4_countRead_1 rfl ?_
  refine zz_cvV (pc := 2) E 6 (kkX4_start l G hJ _ _ _ (zok_mono ha (Nat.le_refl 6) (by decide)) (by omega) (by omega)) (cwV 1 hts gX4_countRead_X4_start rfl rfl rfl (by decide +kernel) ⟨Nat.le_of_ble_eq_true rfl, Nat.le_of_ble_eq_true rfl⟩) (by decide) rfl rfl rfl rfl (Nat.le_of_ble_eq_true rfl) dX4_countRead_2 (fun M2 q2 => ?_)
  obtain ⟨f2, w2⟩ := q2
  refine zz_aload_n (pc := 5) E dX4_countRead_5 rfl ?_
  refine zz_gf (pc := 6) E 6 (by decide) rfl rfl inX4_countRead_X4 1 (by decide) lkX4_countRead_20 (fun _ h => h) rfl dX4_countRead_6 ?_
  refine zz_cvV (pc := 9) E 9 (kkX5_clear l G hJ _ _ _ zz_R9) (cwV 0 hts gX4_countRead_X5_clear rfl rfl rfl (by decide +kernel) ⟨Nat.le_of_ble_eq_true rfl, Nat.le_of_ble_eq_true rfl⟩) (by decide) rfl rfl rfl rfl (Nat.le_of_ble_eq_true rfl) dX4_countRead_9 (fun M9 q9 => ?_)
  obtain ⟨f9, w9⟩ := q9
  refine zz_aload_n (pc := 12) E dX4_countRead_12 rfl ?_
  refine zz_gf (pc := 13) E 6 (by decide) rfl rfl inX4_countRead_X4 1 (by decide) lkX4_countRead_20 (fun _ h => h) rfl dX4_countRead_13 ?_
  refine zz_lload_n (pc := 16) E dX4_countRead_16 rfl ?_
  refine zz_cvV (pc := 17) E 9 (kkX5_putRowAhead l G hJ _ _ _ zz_R9 _ _ _ w9 (zok_mono hd (Nat.le_refl 3) (by decide)) (by omega) (by rw [List.length_nil]; omega)) (cwV 1 hts gX4_countRead_X5_putRowAhead rfl rfl rfl (by decide +kernel) ⟨Nat.le_of_ble_eq_true rfl, Nat.le_of_ble_eq_true rfl⟩) (by decide) rfl rfl rfl rfl (Nat.le_of_ble_eq_true rfl) dX4_countRead_17 (fun M17 q17 => ?_)
  obtain ⟨f17, w17⟩ := q17
  refine zz_iconst (pc := 20) (v := nI 0) E dX4_countRead_20 (by decide) ?_
  refine zz_istore (pc := 21) (lv' := [(0, _), (1, _), (2, _), (3, _), (5, _)]) E dX4_countRead_21 (by decide) rfl ?_
  have key : ∀ (j i : Nat) (M2 : zz_M) (L ls : List Nat), i + j = 12 → ls.length ≤ j → L.length ≤ 9 + 2 * i → (∀ x ∈ L, x < 6) → (∀ x ∈ ls, x < 3) → zfr [7, 8, 9, 10] M M2 → zrow M2 7 33 L → zrow M2 9 12 ls → zrd S (zr a) (zr d) = (i + (zrd S L ls).1, (zrd S L ls).2) → ls = (zr d).drop i → zz_Z p l e (headSpec wsX4_countRead ({ frames := 3, cells := 0, slots := 0, locals := 68 } : Room)).room s m ([.ref (G.2.2 6), .ref (G.2.2 1), .int (nI a), .long (lN d)] : List Value).toArray below meth c 0 0 (MQ below (zz_Qi G (fun r M1 => zfr [7, 8, 9, 10] M M1 ∧ r = nI (zrd S (zr a) (zr d)).1 ∧ zrow M1 7 33 (zrd S (zr a) (zr d)).2 ∧ zrow M1 9 12 ((zr d).drop (zrd S (zr a) (zr d)).1))) ([.ref (G.2.2 6), .ref (G.2.2 1), .int (nI a), .long (lN d)] : List Value).toArray s 0 0 (zz_A G)) 6 G (zz_A G) M2 23 [(0, .ref (G.2.2 6)), (1, .ref (G.2.2 1)), (5, .int (nI i))] [] := by
    intro j
    induction j with
    | zero =>
      intro i M2 L ls hi hls hL h6 h3 hf hw hv he hdr
      have hl0 : ls = [] := List.length_eq_zero_iff.mp (by omega)
      subst hl0
      have he1 : (zrd S (zr a) (zr d)).1 = i := by rw [he]; rfl
      have he2 : (zrd S (zr a) (zr d)).2 = L := by rw [he]; rfl
      refine zz_iload (pc := 23) E dX4_countRead_23 rfl ?_
      refine zz_bipush (pc := 25) (v := nI 12) E dX4_countRead_25 (by decide) ?_
      refine zn_icmp_ge (pc := 27) (tgt := 69) E dX4_countRead_27 (by decide) (by omega) (by omega) (fun h27 => ?_) (fun h27 => ?_)
      · refine zz_iload (pc := 69) E dX4_countRead_69 rfl ?_
        exact zz_iret (pc := 71) E hr hlk dX4_countRead_71 ⟨hf, by rw [he1], by rw [he2]; exact hw, by rw [he1, ← hdr]; exact hv⟩
      · exact absurd h27 (by omega)
    | succ j ih =>
      intro i M2 L ls hi hls hL h6 h3 hf hw hv he hdr
      have hS2 : ztab M2 1 S := ztab_fr hS hf (by decide) (by decide)
      refine zz_iload (pc := 23) E dX4_countRead_23 rfl ?_
      refine zz_bipush (pc := 25) (v := nI 12) E dX4_countRead_25 (by decide) ?_
      refine zn_icmp_ge (pc := 27) (tgt := 69) E dX4_countRead_27 (by decide) (by omega) (by omega) (fun h27 => ?_) (fun h27 => ?_)
      · exact absurd h27 (by omega)
      · refine zz_aload_n (pc := 30) E dX4_countRead_30 rfl ?_
        refine zz_gf (pc := 31) E 6 (by decide) rfl rfl inX4_countRead_X4 1 (by decide) lkX4_countRead_20 (fun _ h => h) rfl dX4_countRead_31 ?_
        refine zz_ciV (pc := 34) E 9 (kkX5_size l G hJ _ _ _ zz_R9) (cwV 0 hts gX4_countRead_X5_size rfl rfl rfl (by decide +kernel) ⟨Nat.le_of_ble_eq_true rfl, Nat.le_of_ble_eq_true rfl⟩) (by decide) rfl rfl rfl rfl (Nat.le_of_ble_eq_true rfl) dX4_countRead_34 (fun r34 M34 q34 => ?_)
        obtain ⟨rfl, rfl⟩ := q34
        refine zz_eqi (y := nI ls.length) hv.1 ?_
        refine zn_if_le (pc := 37) (tgt := 69) E dX4_countRead_37 (by decide) (by omega) (fun h37 => ?_) (fun h37 => ?_)
        · have hl0 : ls = [] := List.length_eq_zero_iff.mp (by omega)
          subst hl0
          have he1 : (zrd S (zr a) (zr d)).1 = i := by rw [he]; rfl
          have he2 : (zrd S (zr a) (zr d)).2 = L := by rw [he]; rfl
          refine zz_iload (pc := 69) E dX4_countRead_69 rfl ?_
          exact zz_iret (pc := 71) E hr hlk dX4_countRead_71 ⟨hf, by rw [he1], by rw [he2]; exact hw, by rw [he1, ← hdr]; exact hv⟩
        · obtain ⟨b, t, rfl⟩ : ∃ b t, ls = b :: t := by
            cases ls with
            | nil => exact absurd h37 (by simp)
            | cons b t => exact ⟨b, t, rfl⟩
          have hb3 := h3 b List.mem_cons_self
          refine zz_aload_n (pc := 40) E dX4_countRead_40 rfl ?_
          refine zz_aload_n (pc := 41) E dX4_countRead_41 rfl ?_
          refine zz_aload_n (pc := 42) E dX4_countRead_42 rfl ?_
          refine zz_gf (pc := 43) E 6 (by decide) rfl rfl inX4_countRead_X4 1 (by decide) lkX4_countRead_20 (fun _ h => h) rfl dX4_countRead_43 ?_
          refine zz_iconst (pc := 46) (v := nI 0) E dX4_countRead_46 (by decide) ?_
          refine zz_ciV (pc := 47) E 9 (kkX5_fromFirst l G hJ _ _ _ zz_R9 0 _ hv (by decide)) (cwV 1 hts gX4_countRead_X5_fromFirst rfl rfl rfl (by decide +kernel) ⟨Nat.le_of_ble_eq_true rfl, Nat.le_of_ble_eq_true rfl⟩) (by decide) rfl rfl rfl rfl (Nat.le_of_ble_eq_true rfl) dX4_countRead_47 (fun r47 M47 q47 => ?_)
          obtain ⟨rfl, rfl⟩ := q47
          refine zz_eqi (y := nI b) rfl ?_
          refine zz_ciV (pc := 50) E 6 (kkX4_step l G hJ _  S L b hV hS2 hw hb3 h6 (by omega)) (cwV 2 hts gX4_countRead_X4_step rfl rfl rfl (by decide +kernel) ⟨Nat.le_of_ble_eq_true rfl, Nat.le_of_ble_eq_true rfl⟩) (by decide) rfl rfl rfl rfl (Nat.le_of_ble_eq_true rfl) dX4_countRead_50 (fun r50 M50 q50 => ?_)
          obtain ⟨f50, rfl, w50⟩ := q50
          refine zb_if_eq (pc := 53) (tgt := 69) E dX4_countRead_53 (by decide) (fun h53 => ?_) (fun h53 => ?_)
          · rw [Option.isSome_eq_false_iff, Option.isNone_iff_eq_none] at h53
            rw [h53] at w50
            have he1 : (zrd S (zr a) (zr d)).1 = i := by rw [he, zrd, h53]; rfl
            have he2 : (zrd S (zr a) (zr d)).2 = L := by rw [he, zrd, h53]
            have hf := zfr_ct hf f50 (ks := [7, 8, 9, 10]) (fun _ h => h) (by simp)
            have hw := w50
            have hv := zrow_fr hv f50 (by decide) (by decide)
            refine zz_iload (pc := 69) E dX4_countRead_69 rfl ?_
            exact zz_iret (pc := 71) E hr hlk dX4_countRead_71 ⟨hf, by rw [he1], by rw [he2]; exact hw, by rw [he1, ← hdr]; exact hv⟩
          · obtain ⟨L1, hsm⟩ := Option.isSome_iff_exists.mp h53
            rw [hsm] at w50
            have hv := zrow_fr hv f50 (by decide) (by decide)
            refine zz_aload_n (pc := 56) E dX4_countRead_56 rfl ?_
            refine zz_gf (pc := 57) E 6 (by decide) rfl rfl inX4_countRead_X4 1 (by decide) lkX4_countRead_20 (fun _ h => h) rfl dX4_countRead_57 ?_
            refine zz_cvV (pc := 60) E 9 (kkX5_dropFirst l G hJ _ _ _ zz_R9 _ hv) (cwV 0 hts gX4_countRead_X5_dropFirst rfl rfl rfl (by decide +kernel) ⟨Nat.le_of_ble_eq_true rfl, Nat.le_of_ble_eq_true rfl⟩) (by decide) rfl rfl rfl rfl (Nat.le_of_ble_eq_true rfl) dX4_countRead_60 (fun M60 q60 => ?_)
            obtain ⟨f60, w60⟩ := q60
            refine zn_inc (pc := 63) (lv' := [(0, _), (1, _), (5, _)]) E dX4_countRead_63 rfl (by decide) rfl ?_
            refine zz_goto (pc := 66) (tgt := 23) E dX4_countRead_66 (by decide) ?_
            have hst := zstep_ok hV hb3 h6 hsm
            exact zz_to (ih (i + 1) M60 L1 t (by omega) (by rw [List.length_cons] at hls; omega) (by omega) hst.1 (fun x hx => h3 x (List.mem_cons_of_mem _ hx)) (zfr_ct (zfr_ct hf f50 (fun _ h => h) (by simp)) f60 (fun _ h => h) (by simp)) (zrow_fr w50 f60 (by decide) (by decide)) w60 (by rw [he, zrd, hsm]; show (i + ((zrd S L1 t).1 + 1), _) = _; rw [Nat.add_assoc, Nat.add_comm 1]) (by rw [← List.drop_drop, ← hdr]; rfl)) ⟨rfl, rfl, rfl, trivial⟩
  exact zz_to (key 12 0 M17 (zr a) (zr d) (by omega) (by rw [zr_len]; omega) (by rw [zr_len]; omega) (zr_lt ha) (zr_lt hd) (zfr_ct (zfr_ct f2 f9 (fun _ h => List.mem_append_left _ h) (fun _ h => List.mem_append_right [7, 8] h)) f17 (by simp) (by simp)) (zrow_fr (zrow_fr w2 f9 (by decide) (by decide)) f17 (by decide) (by decide)) (by rw [List.append_nil] at w17; exact w17) (by rw [Nat.zero_add]) rfl) ⟨rfl, rfl, rfl, trivial⟩

theorem inX4_readsToEnd_X4 : ∀ w ∈ u_ws RX4 TX4 2, w ∈ wsX4_readsToEnd := by decide +kernel
theorem lkX4_readsToEnd_20 : Cond.fieldLink RX4 20 RX4 "ahead" "LFirstSigns$Row;" ∈ wsX4_readsToEnd := by decide +kernel
set_option maxHeartbeats 4000000 in
set_option maxRecDepth 100000 in
theorem kkX4_readsToEnd (l : Launch) (G : zz_C) (hJ : zz_J G) (M : zz_M) (K : List Nat) (hK : zrow M 9 12 K) : Met l yX4_readsToEnd wsX4_readsToEnd ({ frames := 1, cells := 0, slots := 0, locals := 20 } : Room) (zz_P G M [.ref (G.2.2 6)]) (zz_Qi G (fun r M1 => M1 = M ∧ r = zz_b (decide (K.length = 0)))) 0 0 (zz_A G) := by
  refine zz_start hJ (by decide) rfl (Nat.le_of_ble_eq_true rfl) ?_
  intro p e s m below meth c E hr hlk
  have hts := E.2.2.2.2.1
  show zz_Z p l e (headSpec wsX4_readsToEnd ({ frames := 1, cells := 0, slots := 0, locals := 20 } : Room)).room s m ([.ref (G.2.2 6)] : List Value).toArray below meth c 0 0 (MQ below (zz_Qi G (fun r M1 => M1 = M ∧ r = zz_b (decide (K.length = 0)))) ([.ref (G.2.2 6)] : List Value).toArray s 0 0 (zz_A G)) 1 G (zz_A G) M 0 [(0, .ref (G.2.2 6))] []
  have hc := hK.2.1
  refine zz_aload_n (pc := 0) E dX4_readsToEnd_0 rfl ?_
  refine zz_gf (pc := 1) E 6 (by decide) rfl rfl inX4_readsToEnd_X4 1 (by decide) lkX4_readsToEnd_20 (fun _ h => h) rfl dX4_readsToEnd_1 ?_
  refine zz_ciV (pc := 4) E 9 (kkX5_size l G hJ _ _ _ zz_R9) (cwV 0 hts gX4_readsToEnd_X5_size rfl rfl rfl (by decide +kernel) ⟨Nat.le_of_ble_eq_true rfl, Nat.le_of_ble_eq_true rfl⟩) (by decide) rfl rfl rfl rfl (Nat.le_of_ble_eq_true rfl) dX4_readsToEnd_4 (fun r4 M4 q4 => ?_)
  obtain ⟨rfl, rfl⟩ := q4
  refine zz_eqi (y := nI K.length) hK.1 ?_
  refine zn_if_ne (pc := 7) (tgt := 14) E dX4_readsToEnd_7 (by decide) (by omega) (fun h7 => ?_) (fun h7 => ?_)
  · refine zz_iconst (pc := 14) (v := nI 0) E dX4_readsToEnd_14 (by decide) ?_
    exact zz_zret (pc := 15) E hr hlk dX4_readsToEnd_15 (by decide) ⟨rfl, by first | (rw [decide_eq_true h7]; rfl) | (rw [decide_eq_false h7]; rfl)⟩
  · refine zz_iconst (pc := 10) (v := nI 1) E dX4_readsToEnd_10 (by decide) ?_
    refine zz_goto (pc := 11) (tgt := 15) E dX4_readsToEnd_11 (by decide) ?_
    exact zz_zret (pc := 15) E hr hlk dX4_readsToEnd_15 (by decide) ⟨rfl, by first | (rw [decide_eq_true h7]; rfl) | (rw [decide_eq_false h7]; rfl)⟩
end
section
def zush (x y : Int32) : Int32 := (x.toUInt32 >>> (y.toUInt32 &&& Int32.toUInt32 31)).toInt32
def zbc5 (d : Int32) : Int32 := (d + zush d (nI 16)) &&& nI 63
def zbc4 (c : Int32) : Int32 := zbc5 (c + zush c (nI 8))
def zbc3 (b : Int32) : Int32 := zbc4 ((b + zush b (nI 4)) &&& 252645135)
def zbc2 (a : Int32) : Int32 := zbc3 ((a &&& 858993459) + (zush a (nI 2) &&& 858993459))
def zbcf (x : Int32) : Int32 := zbc2 (x - (zush x (nI 1) &&& 1431655765))
theorem zbc_ok : ∀ w, w < 64 → zbcf (nI w) = nI (zpc w) := by decide +kernel

theorem ciJ6_bitCount_0f7a4_265 : Cond.constant RJ6 265 (1431655765) ∈ wsJ6_bitCount_0f7a4 := by decide +kernel
theorem ciJ6_bitCount_0f7a4_266 : Cond.constant RJ6 266 (858993459) ∈ wsJ6_bitCount_0f7a4 := by decide +kernel
theorem ciJ6_bitCount_0f7a4_267 : Cond.constant RJ6 267 (252645135) ∈ wsJ6_bitCount_0f7a4 := by decide +kernel
set_option maxHeartbeats 4000000 in
set_option maxRecDepth 100000 in
theorem kkJ6_bitCount_0f7a4 (l : Launch) (G : zz_C) (hJ : zz_J G) (M : zz_M) (w : Nat) (hw : w < 64) : Met l yJ6_bitCount_0f7a4 wsJ6_bitCount_0f7a4 ({ frames := 0, cells := 0, slots := 0, locals := 0 } : Room) (zz_P G M [.int (nI w)]) (zz_Qi G (fun r M1 => M1 = M ∧ r = nI (zpc w))) 0 0 (zz_A G) := by
  refine zz_start hJ (by decide) rfl (Nat.le_of_ble_eq_true rfl) ?_
  intro p e s m below meth c E hr hlk
  have hts := E.2.2.2.2.1
  show zz_Z p l e (headSpec wsJ6_bitCount_0f7a4 ({ frames := 0, cells := 0, slots := 0, locals := 0 } : Room)).room s m ([.int (nI w)] : List Value).toArray below meth c 0 0 (MQ below (zz_Qi G (fun r M1 => M1 = M ∧ r = nI (zpc w))) ([.int (nI w)] : List Value).toArray s 0 0 (zz_A G)) 1 G (zz_A G) M 0 [(0, .int (nI w))] []
  refine zz_iload_n (pc := 0) E dJ6_bitCount_0f7a4_0 rfl ?_
  refine zz_iload_n (pc := 1) E dJ6_bitCount_0f7a4_1 rfl ?_
  refine zz_iconst (pc := 2) (v := nI 1) E dJ6_bitCount_0f7a4_2 (by decide) ?_
  refine zz_iushr (pc := 3) E dJ6_bitCount_0f7a4_3 rfl ?_
  refine zz_ldcw (pc := 4) (v := 1431655765) E ciJ6_bitCount_0f7a4_265 dJ6_bitCount_0f7a4_4 ?_
  refine zz_iand (pc := 7) E dJ6_bitCount_0f7a4_7 ?_
  refine zz_isub (pc := 8) E dJ6_bitCount_0f7a4_8 ?_
  refine zz_istore_n (pc := 9) (lv' := [(0, _)]) E dJ6_bitCount_0f7a4_9 (by decide) rfl ?_
  refine zz_iload_n (pc := 10) E dJ6_bitCount_0f7a4_10 rfl ?_
  refine zz_ldcw (pc := 11) (v := 858993459) E ciJ6_bitCount_0f7a4_266 dJ6_bitCount_0f7a4_11 ?_
  refine zz_iand (pc := 14) E dJ6_bitCount_0f7a4_14 ?_
  refine zz_iload_n (pc := 15) E dJ6_bitCount_0f7a4_15 rfl ?_
  refine zz_iconst (pc := 16) (v := nI 2) E dJ6_bitCount_0f7a4_16 (by decide) ?_
  refine zz_iushr (pc := 17) E dJ6_bitCount_0f7a4_17 rfl ?_
  refine zz_ldcw (pc := 18) (v := 858993459) E ciJ6_bitCount_0f7a4_266 dJ6_bitCount_0f7a4_18 ?_
  refine zz_iand (pc := 21) E dJ6_bitCount_0f7a4_21 ?_
  refine zz_iadd (pc := 22) E dJ6_bitCount_0f7a4_22 ?_
  refine zz_istore_n (pc := 23) (lv' := [(0, _)]) E dJ6_bitCount_0f7a4_23 (by decide) rfl ?_
  refine zz_iload_n (pc := 24) E dJ6_bitCount_0f7a4_24 rfl ?_
  refine zz_iload_n (pc := 25) E dJ6_bitCount_0f7a4_25 rfl ?_
  refine zz_iconst (pc := 26) (v := nI 4) E dJ6_bitCount_0f7a4_26 (by decide) ?_
  refine zz_iushr (pc := 27) E dJ6_bitCount_0f7a4_27 rfl ?_
  refine zz_iadd (pc := 28) E dJ6_bitCount_0f7a4_28 ?_
  refine zz_ldcw (pc := 29) (v := 252645135) E ciJ6_bitCount_0f7a4_267 dJ6_bitCount_0f7a4_29 ?_
  refine zz_iand (pc := 32) E dJ6_bitCount_0f7a4_32 ?_
  refine zz_istore_n (pc := 33) (lv' := [(0, _)]) E dJ6_bitCount_0f7a4_33 (by decide) rfl ?_
  refine zz_iload_n (pc := 34) E dJ6_bitCount_0f7a4_34 rfl ?_
  refine zz_iload_n (pc := 35) E dJ6_bitCount_0f7a4_35 rfl ?_
  refine zz_bipush (pc := 36) (v := nI 8) E dJ6_bitCount_0f7a4_36 (by decide) ?_
  refine zz_iushr (pc := 38) E dJ6_bitCount_0f7a4_38 rfl ?_
  refine zz_iadd (pc := 39) E dJ6_bitCount_0f7a4_39 ?_
  refine zz_istore_n (pc := 40) (lv' := [(0, _)]) E dJ6_bitCount_0f7a4_40 (by decide) rfl ?_
  refine zz_iload_n (pc := 41) E dJ6_bitCount_0f7a4_41 rfl ?_
  refine zz_iload_n (pc := 42) E dJ6_bitCount_0f7a4_42 rfl ?_
  refine zz_bipush (pc := 43) (v := nI 16) E dJ6_bitCount_0f7a4_43 (by decide) ?_
  refine zz_iushr (pc := 45) E dJ6_bitCount_0f7a4_45 rfl ?_
  refine zz_iadd (pc := 46) E dJ6_bitCount_0f7a4_46 ?_
  refine zz_istore_n (pc := 47) (lv' := [(0, _)]) E dJ6_bitCount_0f7a4_47 (by decide) rfl ?_
  refine zz_iload_n (pc := 48) E dJ6_bitCount_0f7a4_48 rfl ?_
  refine zz_bipush (pc := 49) (v := nI 63) E dJ6_bitCount_0f7a4_49 (by decide) ?_
  refine zz_iand (pc := 51) E dJ6_bitCount_0f7a4_51 ?_
  exact zz_iret (pc := 52) E hr hlk dJ6_bitCount_0f7a4_52 ⟨rfl, zbc_ok w hw⟩

set_option maxHeartbeats 4000000 in
set_option maxRecDepth 100000 in
theorem kkJ7_fill_53178 (l : Launch) (G : zz_C) (hJ : zz_J G) (M : zz_M) (k n : Nat) (x : Int32) (hk : k < 111) (hF : ∀ f, zz_F G k f = .inl (G.2.1 0, n, .inl f)) (hn : n < 2 ^ 31) : Met l yJ7_fill_53178 wsJ7_fill_53178 ({ frames := 0, cells := 0, slots := 0, locals := 0 } : Room) (zz_P G M [.ref (G.2.2 k), .int x]) (zz_Qv G (fun M1 => zfr [k] M M1 ∧ ∀ i, i < n → M1 k i = x)) 0 0 (zz_A G) := by
  refine zz_start hJ (by decide) rfl (Nat.le_of_ble_eq_true rfl) ?_
  intro p e s m below meth c E hr hlk
  have hts := E.2.2.2.2.1
  show zz_Z p l e (headSpec wsJ7_fill_53178 ({ frames := 0, cells := 0, slots := 0, locals := 0 } : Room)).room s m ([.ref (G.2.2 k), .int x] : List Value).toArray below meth c 0 0 (MQ below (zz_Qv G (fun M1 => zfr [k] M M1 ∧ ∀ i, i < n → M1 k i = x)) ([.ref (G.2.2 k), .int x] : List Value).toArray s 0 0 (zz_A G)) 4 G (zz_A G) M 0 [(0, .ref (G.2.2 k)), (1, .int x)] []
  refine zz_iconst (pc := 0) (v := nI 0) E dJ7_fill_53178_0 (by decide) ?_
  refine zz_istore_n (pc := 1) (lv' := [(0, _), (1, _), (2, _)]) E dJ7_fill_53178_1 (by decide) rfl ?_
  refine zz_aload_n (pc := 2) E dJ7_fill_53178_2 rfl ?_
  refine zz_alen (pc := 3) E k (n := n) hk (hF _) dJ7_fill_53178_3 ?_
  refine zz_istore_n (pc := 4) (lv' := [(0, _), (1, _), (2, _), (3, _)]) E dJ7_fill_53178_4 (by decide) rfl ?_
  have key : ∀ (j i : Nat) (M2 : zz_M), i + j = n → zfr [k] M M2 → (∀ q, q < i → M2 k q = x) → zz_Z p l e (headSpec wsJ7_fill_53178 ({ frames := 0, cells := 0, slots := 0, locals := 0 } : Room)).room s m ([.ref (G.2.2 k), .int x] : List Value).toArray below meth c 0 0 (MQ below (zz_Qv G (fun M1 => zfr [k] M M1 ∧ ∀ i, i < n → M1 k i = x)) ([.ref (G.2.2 k), .int x] : List Value).toArray s 0 0 (zz_A G)) 4 G (zz_A G) M2 5 [(0, .ref (G.2.2 k)), (1, .int x), (2, .int (nI i)), (3, .int (nI n))] [] := by
    intro j
    induction j with
    | zero =>
      intro i M2 hi hf hq
      refine zz_iload_n (pc := 5) E dJ7_fill_53178_5 rfl ?_
      refine zz_iload_n (pc := 6) E dJ7_fill_53178_6 rfl ?_
      refine zn_icmp_ge (pc := 7) (tgt := 20) E dJ7_fill_53178_7 (by decide) (by omega) (by omega) (fun h7 => ?_) (fun h7 => ?_)
      · exact zz_vret (pc := 20) E hr hlk dJ7_fill_53178_20 ⟨hf, fun q hq2 => hq q (by omega)⟩
      · exact absurd h7 (by omega)
    | succ j ih =>
      intro i M2 hi hf hq
      refine zz_iload_n (pc := 5) E dJ7_fill_53178_5 rfl ?_
      refine zz_iload_n (pc := 6) E dJ7_fill_53178_6 rfl ?_
      refine zn_icmp_ge (pc := 7) (tgt := 20) E dJ7_fill_53178_7 (by decide) (by omega) (by omega) (fun h7 => ?_) (fun h7 => ?_)
      · exact absurd h7 (by omega)
      · refine zz_aload_n (pc := 10) E dJ7_fill_53178_10 rfl ?_
        refine zz_iload_n (pc := 11) E dJ7_fill_53178_11 rfl ?_
        refine zz_iload_n (pc := 12) E dJ7_fill_53178_12 rfl ?_
        refine zz_iast (pc := 13) E k (_) (n := n) hk hF rfl (by omega) hn dJ7_fill_53178_13 ?_
        refine zn_inc (pc := 14) (lv' := [(0, _), (1, _), (2, _), (3, _)]) E dJ7_fill_53178_14 rfl (by decide) rfl ?_
        refine zz_goto (pc := 17) (tgt := 5) E dJ7_fill_53178_17 (by decide) ?_
        exact zz_to (ih (i + 1) _ (by omega) (zfr_up hf (by simp)) (fun q hq2 => by rw [zz_up_same]; by_cases e : q = i; rw [e, upd_same]; rw [upd_ne _ _ e]; exact hq q (by omega))) ⟨rfl, rfl, rfl, rfl, trivial⟩
  exact zz_to (key n 0 M (by omega) (zfr_rf _ _) (fun q h => absurd h (by omega))) ⟨rfl, rfl, rfl, rfl, trivial⟩

/-! norms: none is no word -/
def zoa (a b : Option Nat) : Option Nat := match a, b with
  | some x, some y => some (x + y)
  | _, _ => none
def znorm (v : Nat → Option Nat) : List Nat → Option Nat
  | [] => some 0
  | x :: t => zoa (v x) (znorm v t)
/-- by a letter, if there is one -/
def zby (S v : Nat → Option Nat) (s : Nat) (ol : Option Nat) : Option Nat := match ol with
  | none => none
  | some a => match S (3 * s + a) with
    | none => none
    | some r => (znorm v (zr r)).map (· + 1)
/-- the best of the letters below l: the letter, the norm -/
def zbest (S v : Nat → Option Nat) (s : Nat) : Nat → Option Nat × Option Nat
  | 0 => (none, none)
  | l + 1 => match zby S v s (some l) with
    | none => zbest S v s l
    | some m => match (zbest S v s l).2 with
      | none => (some l, some m)
      | some n => if m < n then (some l, some m) else zbest S v s l
def zmin (S v : Nat → Option Nat) (s : Nat) : Option Nat := (zbest S v s 3).2
theorem zbest_by (S v : Nat → Option Nat) (s : Nat) : ∀ l, zby S v s (zbest S v s l).1 = (zbest S v s l).2
  | 0 => rfl
  | l + 1 => by
    rw [zbest]
    cases h : zby S v s (some l) with
    | none => exact zbest_by S v s l
    | some m =>
      cases h2 : (zbest S v s l).2 with
      | none => exact h
      | some n =>
        show zby S v s (if m < n then (some l, some m) else zbest S v s l).1 = (if m < n then (some l, some m) else zbest S v s l).2
        by_cases hm : m < n
        · rw [if_pos hm]; exact h
        · rw [if_neg hm]; exact zbest_by S v s l
theorem zbest_lt (S v : Nat → Option Nat) (s : Nat) : ∀ l a, (zbest S v s l).1 = some a → a < l
  | 0, a, h => by cases h
  | l + 1, a, h => by
    rw [zbest] at h
    cases h1 : zby S v s (some l) with
    | none => rw [h1] at h; have := zbest_lt S v s l a h; omega
    | some m =>
      rw [h1] at h
      cases h2 : (zbest S v s l).2 with
      | none =>
        rw [h2] at h
        have h : some l = some a := h
        cases h
        omega
      | some n =>
        rw [h2] at h
        have h : (if m < n then (some l, some m) else zbest S v s l).1 = some a := h
        by_cases hm : m < n
        · rw [if_pos hm] at h
          have h : some l = some a := h
          cases h
          omega
        · rw [if_neg hm] at h
          have := zbest_lt S v s l a h
          omega
theorem znorm_app (v : Nat → Option Nat) : ∀ (L K : List Nat), znorm v (L ++ K) = zoa (znorm v L) (znorm v K)
  | [], K => by
    show znorm v K = zoa (some 0) (znorm v K)
    cases znorm v K with
    | none => rfl
    | some k => show some k = some (0 + k); rw [Nat.zero_add]
  | x :: L, K => by
    show zoa (v x) (znorm v (L ++ K)) = zoa (zoa (v x) (znorm v L)) (znorm v K)
    rw [znorm_app v L K]
    cases v x <;> cases znorm v L <;> cases znorm v K <;> simp [zoa, Nat.add_assoc]
theorem znorm_none {v : Nat → Option Nat} {x : Nat} : ∀ {L : List Nat}, x ∈ L → v x = none → znorm v L = none
  | y :: L, h, hx => by
    rcases List.mem_cons.mp h with rfl | h
    · show zoa (v x) _ = none
      rw [hx]
      rfl
    · show zoa _ (znorm v L) = none
      rw [znorm_none h hx]
      cases v y <;> rfl
theorem znorm_le {v : Nat → Option Nat} {B : Nat} (hB : ∀ s, s < 6 → ∀ n, v s = some n → n ≤ B) : ∀ {L : List Nat} {n : Nat}, (∀ x ∈ L, x < 6) → znorm v L = some n → n ≤ B * L.length
  | [], n, _, h => by cases h; exact Nat.zero_le _
  | x :: L, n, h6, h => by
    have h : zoa (v x) (znorm v L) = some n := h
    cases hv : v x with
    | none => rw [hv] at h; cases h
    | some a =>
      cases hn : znorm v L with
      | none => rw [hv, hn] at h; cases h
      | some b =>
        rw [hv, hn] at h
        cases h
        have h1 := hB x (h6 x List.mem_cons_self) a hv
        have h2 := znorm_le hB (fun y hy => h6 y (List.mem_cons_of_mem _ hy)) hn
        rw [List.length_cons, Nat.mul_add, Nat.mul_one]
        omega
def znm (M : zz_M) (v : Nat → Option Nat) : Prop := ∀ s, s < 6 → M 12 s = zo (v s)
def zbd (v : Nat → Option Nat) (B : Nat) : Prop := ∀ s, s < 6 → ∀ n, v s = some n → n ≤ B

theorem niX2_of_X7_isSign : Cond.initialized RX7 ∈ wsX2_of := by decide +kernel
theorem nsX2_of_X7_isSign : Cond.static yX7_isSign ∈ wsX2_of := by decide +kernel
theorem inX2_of_X2 : ∀ w ∈ u_ws RX2 TX2 1, w ∈ wsX2_of := by decide +kernel
theorem lkX2_of_9 : Cond.fieldLink RX2 9 RX2 "ofSign" "[I" ∈ wsX2_of := by decide +kernel
set_option maxHeartbeats 4000000 in
set_option maxRecDepth 100000 in
theorem kkX2_of (l : Launch) (G : zz_C) (hJ : zz_J G) (M : zz_M) (v : Nat → Option Nat) (s0 : Nat) (hv : znm M v) (hs0 : s0 < 6) : Met l yX2_of wsX2_of ({ frames := 1, cells := 0, slots := 0, locals := 20 } : Room) (zz_P G M [.ref (G.2.2 11), .int (nI s0)]) (zz_Qi G (fun r M1 => M1 = M ∧ r = zo (v s0))) 0 0 (zz_A G) := by
  refine zz_start hJ (by decide) rfl (Nat.le_of_ble_eq_true rfl) ?_
  intro p e s m below meth c E hr hlk
  have hts := E.2.2.2.2.1
  show zz_Z p l e (headSpec wsX2_of ({ frames := 1, cells := 0, slots := 0, locals := 20 } : Room)).room s m ([.ref (G.2.2 11), .int (nI s0)] : List Value).toArray below meth c 0 0 (MQ below (zz_Qi G (fun r M1 => M1 = M ∧ r = zo (v s0))) ([.ref (G.2.2 11), .int (nI s0)] : List Value).toArray s 0 0 (zz_A G)) 2 G (zz_A G) M 0 [(0, .ref (G.2.2 11)), (1, .int (nI s0))] []
  refine zz_iload_n (pc := 0) E dX2_of_0 rfl ?_
  refine zz_ciN (pc := 1) E (kkX7_isSign l G hJ _ _ ) ⟨va_cnB 1 hts gX2_of_X7_isSign_n42 rfl rfl rfl E.2.2.2.2.2.2.1.2.2.2.1 (hts _ niX2_of_X7_isSign) (by decide +kernel) ⟨Nat.le_of_ble_eq_true rfl, Nat.le_of_ble_eq_true rfl⟩, hts _ nsX2_of_X7_isSign, trivial⟩ rfl rfl (Nat.le_of_ble_eq_true rfl) dX2_of_1 (fun r1 M1 q1 => ?_)
  obtain ⟨rfl, rfl⟩ := q1
  refine zb_if_eq (pc := 4) (tgt := 16) E dX2_of_4 (by decide) (fun h4 => ?_) (fun h4 => ?_)
  · rw [zp_in_nI (by omega), decide_eq_true hs0] at h4
    cases h4
  · refine zz_aload_n (pc := 7) E dX2_of_7 rfl ?_
    refine zz_gf (pc := 8) E 11 (by decide) rfl rfl inX2_of_X2 0 (by decide) lkX2_of_9 (fun _ h => h) rfl dX2_of_8 ?_
    refine zz_iload_n (pc := 11) E dX2_of_11 rfl ?_
    refine zz_iald (pc := 12) E 12 (_) (n := 6) (by decide) rfl rfl (by omega) (by decide) dX2_of_12 ?_
    refine zz_goto (pc := 13) (tgt := 18) E dX2_of_13 (by decide) ?_
    exact zz_iret (pc := 18) E hr hlk dX2_of_18 ⟨rfl, hv s0 hs0⟩

set_option maxHeartbeats 4000000 in
set_option maxRecDepth 100000 in
theorem kkX2_ofRow (l : Launch) (G : zz_C) (hJ : zz_J G) (M : zz_M) (v : Nat → Option Nat) (a kn mo B : Nat) (hv : znm M v) (hB : zbd v B) (hBs : B < 100000) (hz : zok a 6 mo = true) (hmo : mo < 10) : Met l yX2_ofRow wsX2_ofRow ({ frames := 2, cells := 0, slots := 0, locals := 41 } : Room) (zz_P G M [.ref (G.2.2 11), .int (nI a)]) (zz_Qi G (fun r M1 => M1 = M ∧ r = zo (znorm v (zr a)))) 0 0 (zz_A G) := by
  refine zz_start hJ (by decide) rfl (Nat.le_of_ble_eq_true rfl) ?_
  intro p e s m below meth c E hr hlk
  have hts := E.2.2.2.2.1
  show zz_Z p l e (headSpec wsX2_ofRow ({ frames := 2, cells := 0, slots := 0, locals := 41 } : Room)).room s m ([.ref (G.2.2 11), .int (nI a)] : List Value).toArray below meth c 0 0 (MQ below (zz_Qi G (fun r M1 => M1 = M ∧ r = zo (znorm v (zr a)))) ([.ref (G.2.2 11), .int (nI a)] : List Value).toArray s 0 0 (zz_A G)) 5 G (zz_A G) M 0 [(0, .ref (G.2.2 11)), (1, .int (nI a))] []
  have ha : a < 2 ^ 31 := by
    have h1 := zok_lt hz (by omega)
    have h2 : 10 ^ mo ≤ 10 ^ 9 := Nat.pow_le_pow_right (by decide) (by omega)
    omega
  refine zz_iconst (pc := 0) (v := nI 0) E dX2_ofRow_0 (by decide) ?_
  refine zz_istore_n (pc := 1) (lv' := [(0, _), (1, _), (2, _)]) E dX2_ofRow_1 (by decide) rfl ?_
  refine zz_iload_n (pc := 2) E dX2_ofRow_2 rfl ?_
  refine zz_istore_n (pc := 3) (lv' := [(0, _), (1, _), (2, _), (3, _)]) E dX2_ofRow_3 (by decide) rfl ?_
  have key : ∀ (j b n : Nat) (K : List Nat), (zd b).length = j → b < 2 ^ 31 → zok b 6 mo = true → zr a = zr b ++ K → znorm v K = some n → zz_Z p l e (headSpec wsX2_ofRow ({ frames := 2, cells := 0, slots := 0, locals := 41 } : Room)).room s m ([.ref (G.2.2 11), .int (nI a)] : List Value).toArray below meth c 0 0 (MQ below (zz_Qi G (fun r M1 => M1 = M ∧ r = zo (znorm v (zr a)))) ([.ref (G.2.2 11), .int (nI a)] : List Value).toArray s 0 0 (zz_A G)) 5 G (zz_A G) M 4 [(0, .ref (G.2.2 11)), (2, .int (nI n)), (3, .int (nI b))] [] := by
    intro j
    induction j with
    | zero =>
      intro b n K hj hb hzb he hn
      have hb0 := zd_len0 hj (by omega)
      subst hb0
      refine zz_iload_n (pc := 4) E dX2_ofRow_4 rfl ?_
      refine zn_if_le (pc := 5) (tgt := 43) E dX2_ofRow_5 (by decide) (by omega) (fun h5 => ?_) (fun h5 => ?_)
      · refine zz_iload_n (pc := 43) E dX2_ofRow_43 rfl ?_
        exact zz_iret (pc := 44) E hr hlk dX2_ofRow_44 ⟨rfl, by rw [he, zr_0, List.nil_append, hn]; rfl⟩
      · exact absurd h5 (by omega)
    | succ j ih =>
      intro b n K hj hb hzb he hn
      have h0 : 0 < b := by
        rcases Nat.eq_zero_or_pos b with h | h
        · rw [h] at hj; cases hj
        · exact h
      have hd := zok_digit hzb h0 (by omega)
      rw [zd_pos h0 (by omega), List.length_cons] at hj
      have hlt : ∀ q, v (b % 10 - 1) = some q → q < 2 ^ 31 := fun q hq => by have := hB _ (by omega) q hq; omega
      rw [zr_pos h0 (by omega)] at he
      refine zz_iload_n (pc := 4) E dX2_ofRow_4 rfl ?_
      refine zn_if_le (pc := 5) (tgt := 43) E dX2_ofRow_5 (by decide) (by omega) (fun h5 => ?_) (fun h5 => ?_)
      · exact absurd h5 (by omega)
      · refine zz_aload_n (pc := 8) E dX2_ofRow_8 rfl ?_
        refine zz_iload_n (pc := 9) E dX2_ofRow_9 rfl ?_
        refine zz_bipush (pc := 10) (v := nI 10) E dX2_ofRow_10 (by decide) ?_
        refine zn_irem (pc := 12) E dX2_ofRow_12 (by omega) (by omega) (by omega) ?_
        refine zz_iconst (pc := 13) (v := nI 1) E dX2_ofRow_13 (by decide) ?_
        refine zn_isub (pc := 14) E dX2_ofRow_14 (by omega) ?_
        refine zz_ciV (pc := 15) E 11 (kkX2_of l G hJ _  v _ hv (by omega)) (cwV 1 hts gX2_ofRow_X2_of rfl rfl rfl (by decide +kernel) ⟨Nat.le_of_ble_eq_true rfl, Nat.le_of_ble_eq_true rfl⟩) (by decide) rfl rfl rfl rfl (Nat.le_of_ble_eq_true rfl) dX2_ofRow_15 (fun r15 M15 q15 => ?_)
        obtain ⟨rfl, rfl⟩ := q15
        refine zz_istore (pc := 18) (lv' := [(0, _), (2, _), (3, _), (4, _)]) E dX2_ofRow_18 (by decide) rfl ?_
        refine zz_iload (pc := 20) E dX2_ofRow_20 rfl ?_
        refine zz_bipush (pc := 22) (v := -9) E dX2_ofRow_22 (by decide) ?_
        refine zz_icmp_ne (pc := 24) (tgt := 30) E dX2_ofRow_24 (by decide) (fun h24 => ?_) (fun h24 => ?_)
        · obtain ⟨q, hq⟩ : ∃ q, v (b % 10 - 1) = some q := by
            cases hv2 : v (b % 10 - 1) with
            | none => exact absurd (by rw [hv2]; rfl) h24
            | some q => exact ⟨q, rfl⟩
          refine zz_iload_n (pc := 30) E dX2_ofRow_30 rfl ?_
          refine zz_iload (pc := 31) E dX2_ofRow_31 rfl ?_
          refine zz_eqi (y := nI q) (by rw [hq]; rfl) ?_
          refine zn_iadd (pc := 33) E dX2_ofRow_33 ?_
          refine zz_istore_n (pc := 34) (lv' := [(0, _), (2, _), (3, _), (4, _)]) E dX2_ofRow_34 (by decide) rfl ?_
          refine zz_iload_n (pc := 35) E dX2_ofRow_35 rfl ?_
          refine zz_bipush (pc := 36) (v := nI 10) E dX2_ofRow_36 (by decide) ?_
          refine zn_idiv (pc := 38) E dX2_ofRow_38 (by omega) (by omega) (by omega) ?_
          refine zz_istore_n (pc := 39) (lv' := [(0, _), (2, _), (3, _), (4, _)]) E dX2_ofRow_39 (by decide) rfl ?_
          refine zz_goto (pc := 40) (tgt := 4) E dX2_ofRow_40 (by decide) ?_
          exact zz_to (ih (b / 10) (n + q) ((b % 10 - 1) :: K) (by omega) (by omega) (zok_half hzb (by omega)) (by rw [he]; simp) (by show zoa (v (b % 10 - 1)) (znorm v K) = _; rw [hq, hn, Nat.add_comm n]; rfl)) ⟨rfl, rfl, rfl, trivial⟩
        · rw [zo_m9 hlt] at h24
          refine zz_bipush (pc := 27) (v := -9) E dX2_ofRow_27 (by decide) ?_
          exact zz_iret (pc := 29) E hr hlk dX2_ofRow_29 ⟨rfl, by rw [he, znorm_none (x := b % 10 - 1) (by simp) h24]; rfl⟩
  exact zz_to (key _ a 0 [] rfl ha hz (by simp) rfl) ⟨rfl, rfl, rfl, trivial⟩

set_option maxHeartbeats 4000000 in
set_option maxRecDepth 100000 in
theorem kkX2_byLetter (l : Launch) (G : zz_C) (hJ : zz_J G) (M : zz_M) (S v : Nat → Option Nat) (s0 : Nat) (ol : Option Nat) (B : Nat) (hV : zV S) (hS : ztab M 1 S) (hv : znm M v) (hB : zbd v B) (hBs : B < 100000) (hs0 : s0 < 6) (hol : ∀ a, ol = some a → a < 3) : Met l yX2_byLetter wsX2_byLetter ({ frames := 3, cells := 0, slots := 0, locals := 65 } : Room) (zz_P G M [.ref (G.2.2 11), .ref (G.2.2 1), .int (nI s0), .int (zo ol)]) (zz_Qi G (fun r M1 => M1 = M ∧ r = zo (zby S v s0 ol))) 0 0 (zz_A G) := by
  refine zz_start hJ (by decide) rfl (Nat.le_of_ble_eq_true rfl) ?_
  intro p e s m below meth c E hr hlk
  have hts := E.2.2.2.2.1
  show zz_Z p l e (headSpec wsX2_byLetter ({ frames := 3, cells := 0, slots := 0, locals := 65 } : Room)).room s m ([.ref (G.2.2 11), .ref (G.2.2 1), .int (nI s0), .int (zo ol)] : List Value).toArray below meth c 0 0 (MQ below (zz_Qi G (fun r M1 => M1 = M ∧ r = zo (zby S v s0 ol))) ([.ref (G.2.2 11), .ref (G.2.2 1), .int (nI s0), .int (zo ol)] : List Value).toArray s 0 0 (zz_A G)) 6 G (zz_A G) M 0 [(0, .ref (G.2.2 11)), (1, .ref (G.2.2 1)), (2, .int (nI s0)), (3, .int (zo ol))] []
  have hrr : zrl M 1 (nI s0) (zo ol) = zo (ol.bind (fun a => S (3 * s0 + a))) := by
    cases ol with
    | none => exact zrl_m9'
    | some a =>
      have ha := hol a rfl
      show zrl M 1 (nI s0) (nI a) = zo (S (3 * s0 + a))
      rw [zrl_nI hs0 ha]
      exact hS.1 _ (by omega)
  have hok : ∀ r, ol.bind (fun a => S (3 * s0 + a)) = some r → zok r 6 3 = true ∧ r < 1000 := by
    intro r hr2
    cases ol with
    | none => cases hr2
    | some a =>
      have ha := hol a rfl
      exact ⟨hV.1 _ (by omega) r hr2, zV_lt hV (by omega) hr2⟩
  have hby : zby S v s0 ol = match ol.bind (fun a => S (3 * s0 + a)) with
    | none => none
    | some r => (znorm v (zr r)).map (· + 1) := by
    cases ol with
    | none => rfl
    | some a => rfl
  generalize ol.bind (fun a => S (3 * s0 + a)) = rl at hrr hok hby
  refine zz_aload_n (pc := 0) E dX2_byLetter_0 rfl ?_
  refine zz_iload_n (pc := 1) E dX2_byLetter_1 rfl ?_
  refine zz_iload_n (pc := 2) E dX2_byLetter_2 rfl ?_
  refine zz_ciV (pc := 3) E 1 (kkX6_ruleOf l G hJ _ _ zz_T1 _ _) (cwV 2 hts gX2_byLetter_X6_ruleOf rfl rfl rfl (by decide +kernel) ⟨Nat.le_of_ble_eq_true rfl, Nat.le_of_ble_eq_true rfl⟩) (by decide) rfl rfl rfl rfl (Nat.le_of_ble_eq_true rfl) dX2_byLetter_3 (fun r3 M3 q3 => ?_)
  obtain ⟨rfl, rfl⟩ := q3
  refine zz_eqi (y := zo rl) hrr ?_
  refine zz_istore (pc := 6) (lv' := [(0, _), (1, _), (2, _), (3, _), (4, _)]) E dX2_byLetter_6 (by decide) rfl ?_
  refine zz_iload (pc := 8) E dX2_byLetter_8 rfl ?_
  refine zz_bipush (pc := 10) (v := -9) E dX2_byLetter_10 (by decide) ?_
  refine zz_icmp_ne (pc := 12) (tgt := 20) E dX2_byLetter_12 (by decide) (fun h12 => ?_) (fun h12 => ?_)
  · obtain ⟨r, rfl⟩ : ∃ r, rl = some r := by
      cases rl with
      | none => exact absurd rfl h12
      | some r => exact ⟨r, rfl⟩
    have hok := hok r rfl
    have hby : zby S v s0 ol = (znorm v (zr r)).map (· + 1) := hby
    have hnb : ∀ q, znorm v (zr r) = some q → q < 2 ^ 31 := fun q hq => by
      have h1 := znorm_le hB (zr_lt hok.1) hq
      have h2 := zok_len hok.1
      rw [zr_len] at h1
      have h3 : B * (zd r).length ≤ B * 3 := Nat.mul_le_mul_left _ h2
      omega
    refine zz_aload_n (pc := 20) E dX2_byLetter_20 rfl ?_
    refine zz_iload (pc := 21) E dX2_byLetter_21 rfl ?_
    refine zz_eqi (y := nI r) rfl ?_
    refine zz_ciV (pc := 23) E 11 (kkX2_ofRow l G hJ _  v r 6 3 B hv hB hBs hok.1 (by decide)) (cwV 1 hts gX2_byLetter_X2_ofRow rfl rfl rfl (by decide +kernel) ⟨Nat.le_of_ble_eq_true rfl, Nat.le_of_ble_eq_true rfl⟩) (by decide) rfl rfl rfl rfl (Nat.le_of_ble_eq_true rfl) dX2_byLetter_23 (fun r23 M23 q23 => ?_)
    obtain ⟨rfl, rfl⟩ := q23
    refine zz_istore (pc := 26) (lv' := [(0, _), (1, _), (2, _), (3, _), (4, _), (5, _)]) E dX2_byLetter_26 (by decide) rfl ?_
    refine zz_iload (pc := 28) E dX2_byLetter_28 rfl ?_
    refine zz_bipush (pc := 30) (v := -9) E dX2_byLetter_30 (by decide) ?_
    refine zz_icmp_ne (pc := 32) (tgt := 40) E dX2_byLetter_32 (by decide) (fun h32 => ?_) (fun h32 => ?_)
    · obtain ⟨q, hq⟩ : ∃ q, znorm v (zr r) = some q := by
        cases hv2 : znorm v (zr r) with
        | none => exact absurd (by rw [hv2]; rfl) h32
        | some q => exact ⟨q, rfl⟩
      refine zz_iload (pc := 40) E dX2_byLetter_40 rfl ?_
      refine zz_eqi (y := nI q) (by rw [hq]; rfl) ?_
      refine zz_iconst (pc := 42) (v := nI 1) E dX2_byLetter_42 (by decide) ?_
      refine zn_iadd (pc := 43) E dX2_byLetter_43 ?_
      exact zz_iret (pc := 44) E hr hlk dX2_byLetter_44 ⟨rfl, by first | (rw [hby, hq]; rfl) | (rw [hby, h32]; rfl)⟩
    · rw [zo_m9 hnb] at h32
      refine zz_bipush (pc := 35) (v := -9) E dX2_byLetter_35 (by decide) ?_
      refine zz_goto (pc := 37) (tgt := 44) E dX2_byLetter_37 (by decide) ?_
      exact zz_iret (pc := 44) E hr hlk dX2_byLetter_44 ⟨rfl, by first | (rw [hby, hq]; rfl) | (rw [hby, h32]; rfl)⟩
  · rw [zo_m9 (fun r hr2 => by have := (hok r hr2).2; omega)] at h12
    subst h12
    have hby : zby S v s0 ol = none := hby
    refine zz_bipush (pc := 15) (v := -9) E dX2_byLetter_15 (by decide) ?_
    refine zz_goto (pc := 17) (tgt := 26) E dX2_byLetter_17 (by decide) ?_
    refine zz_istore (pc := 26) (lv' := [(0, _), (1, _), (2, _), (3, _), (4, _), (5, _)]) E dX2_byLetter_26 (by decide) rfl ?_
    refine zz_iload (pc := 28) E dX2_byLetter_28 rfl ?_
    refine zz_bipush (pc := 30) (v := -9) E dX2_byLetter_30 (by decide) ?_
    refine zz_icmp_ne (pc := 32) (tgt := 40) E dX2_byLetter_32 (by decide) (fun h32 => ?_) (fun h32 => ?_)
    · exact absurd rfl h32
    · refine zz_bipush (pc := 35) (v := -9) E dX2_byLetter_35 (by decide) ?_
      refine zz_goto (pc := 37) (tgt := 44) E dX2_byLetter_37 (by decide) ?_
      exact zz_iret (pc := 44) E hr hlk dX2_byLetter_44 ⟨rfl, by rw [hby]; rfl⟩

theorem zby_le {S v : Nat → Option Nat} {s0 B : Nat} {ol : Option Nat} (hV : zV S) (hB : zbd v B) (hs0 : s0 < 6) (hol : ∀ a, ol = some a → a < 3) {n : Nat} (h : zby S v s0 ol = some n) : n ≤ 3 * B + 1 := by
  cases ol with
  | none => cases h
  | some a =>
    have ha := hol a rfl
    have h : (match S (3 * s0 + a) with | none => none | some r => (znorm v (zr r)).map (· + 1)) = some n := h
    cases hs : S (3 * s0 + a) with
    | none => rw [hs] at h; cases h
    | some r =>
      rw [hs] at h
      have h : (znorm v (zr r)).map (· + 1) = some n := h
      cases hn : znorm v (zr r) with
      | none => rw [hn] at h; cases h
      | some q =>
        rw [hn] at h
        cases h
        have hz := hV.1 _ (by omega) r hs
        have h1 := znorm_le hB (zr_lt hz) hn
        have h2 := zok_len hz
        rw [zr_len] at h1
        have h3 : B * (zd r).length ≤ B * 3 := Nat.mul_le_mul_left _ h2
        show q + 1 ≤ 3 * B + 1
        omega
theorem zbest_le {S v : Nat → Option Nat} {s0 B : Nat} (hV : zV S) (hB : zbd v B) (hs0 : s0 < 6) {l n : Nat} (hl : l ≤ 3) (h : (zbest S v s0 l).2 = some n) : n ≤ 3 * B + 1 := by
  rw [← zbest_by] at h
  exact zby_le hV hB hs0 (fun a ha => by have := zbest_lt S v s0 l a ha; omega) h

set_option maxHeartbeats 4000000 in
set_option maxRecDepth 100000 in
theorem kkX2_leastLetter (l : Launch) (G : zz_C) (hJ : zz_J G) (M : zz_M) (S v : Nat → Option Nat) (B : Nat) (hV : zV S) (hS : ztab M 1 S) (hv : znm M v) (hB : zbd v B) (hBs : B < 100000) (s0 : Nat) (hs0 : s0 < 6) : Met l yX2_leastLetter wsX2_leastLetter ({ frames := 4, cells := 0, slots := 0, locals := 90 } : Room) (zz_P G M [.ref (G.2.2 11), .ref (G.2.2 1), .int (nI s0)]) (zz_Qi G (fun r M1 => M1 = M ∧ r = zo (zbest S v s0 3).1)) 0 0 (zz_A G) := by
  refine zz_start hJ (by decide) rfl (Nat.le_of_ble_eq_true rfl) ?_
  intro p e s m below meth c E hr hlk
  have hts := E.2.2.2.2.1
  show zz_Z p l e (headSpec wsX2_leastLetter ({ frames := 4, cells := 0, slots := 0, locals := 90 } : Room)).room s m ([.ref (G.2.2 11), .ref (G.2.2 1), .int (nI s0)] : List Value).toArray below meth c 0 0 (MQ below (zz_Qi G (fun r M1 => M1 = M ∧ r = zo (zbest S v s0 3).1)) ([.ref (G.2.2 11), .ref (G.2.2 1), .int (nI s0)] : List Value).toArray s 0 0 (zz_A G)) 7 G (zz_A G) M 0 [(0, .ref (G.2.2 11)), (1, .ref (G.2.2 1)), (2, .int (nI s0))] []
  refine zz_bipush (pc := 0) (v := -9) E dX2_leastLetter_0 (by decide) ?_
  refine zz_istore_n (pc := 2) (lv' := [(0, _), (1, _), (2, _), (3, _)]) E dX2_leastLetter_2 (by decide) rfl ?_
  refine zz_bipush (pc := 3) (v := -9) E dX2_leastLetter_3 (by decide) ?_
  refine zz_istore (pc := 5) (lv' := [(0, _), (1, _), (2, _), (3, _), (4, _)]) E dX2_leastLetter_5 (by decide) rfl ?_
  refine zz_iconst (pc := 7) (v := nI 0) E dX2_leastLetter_7 (by decide) ?_
  refine zz_istore (pc := 8) (lv' := [(0, _), (1, _), (2, _), (3, _), (4, _), (5, _)]) E dX2_leastLetter_8 (by decide) rfl ?_
  have key : ∀ (j i : Nat), i + j = 3 → zz_Z p l e (headSpec wsX2_leastLetter ({ frames := 4, cells := 0, slots := 0, locals := 90 } : Room)).room s m ([.ref (G.2.2 11), .ref (G.2.2 1), .int (nI s0)] : List Value).toArray below meth c 0 0 (MQ below (zz_Qi G (fun r M1 => M1 = M ∧ r = zo (zbest S v s0 3).1)) ([.ref (G.2.2 11), .ref (G.2.2 1), .int (nI s0)] : List Value).toArray s 0 0 (zz_A G)) 7 G (zz_A G) M 10 [(0, .ref (G.2.2 11)), (1, .ref (G.2.2 1)), (2, .int (nI s0)), (3, .int (zo (zbest S v s0 i).1)), (4, .int (zo (zbest S v s0 i).2)), (5, .int (nI i))] [] := by
    intro j
    induction j with
    | zero =>
      intro i hi
      refine zz_iload (pc := 10) E dX2_leastLetter_10 rfl ?_
      refine zz_iconst (pc := 12) (v := nI 3) E dX2_leastLetter_12 (by decide) ?_
      refine zn_icmp_ge (pc := 13) (tgt := 60) E dX2_leastLetter_13 (by decide) (by omega) (by omega) (fun h13 => ?_) (fun h13 => ?_)
      · refine zz_iload_n (pc := 60) E dX2_leastLetter_60 rfl ?_
        exact zz_iret (pc := 61) E hr hlk dX2_leastLetter_61 ⟨rfl, by rw [show i = 3 by omega]⟩
      · exact absurd h13 (by omega)
    | succ j ih =>
      intro i hi
      have hlm : ∀ q, zby S v s0 (some i) = some q → q < 2 ^ 31 := fun q hq => by have := zby_le hV hB hs0 (fun a ha => by cases ha; omega) hq; omega
      have hlb : ∀ q, (zbest S v s0 i).2 = some q → q < 2 ^ 31 := fun q hq => by have := zbest_le hV hB hs0 (by omega) hq; omega
      have he : zbest S v s0 (i + 1) = match zby S v s0 (some i) with
        | none => zbest S v s0 i
        | some m => match (zbest S v s0 i).2 with
          | none => (some i, some m)
          | some n => if m < n then (some i, some m) else zbest S v s0 i := rfl
      refine zz_iload (pc := 10) E dX2_leastLetter_10 rfl ?_
      refine zz_iconst (pc := 12) (v := nI 3) E dX2_leastLetter_12 (by decide) ?_
      refine zn_icmp_ge (pc := 13) (tgt := 60) E dX2_leastLetter_13 (by decide) (by omega) (by omega) (fun h13 => ?_) (fun h13 => ?_)
      · exact absurd h13 (by omega)
      · refine zz_aload_n (pc := 16) E dX2_leastLetter_16 rfl ?_
        refine zz_aload_n (pc := 17) E dX2_leastLetter_17 rfl ?_
        refine zz_iload_n (pc := 18) E dX2_leastLetter_18 rfl ?_
        refine zz_iload (pc := 19) E dX2_leastLetter_19 rfl ?_
        refine zz_ciV (pc := 21) E 11 (kkX2_byLetter l G hJ _  S v s0 (some i) B hV hS hv hB hBs hs0 (fun a ha => by cases ha; omega)) (cwV 3 hts gX2_leastLetter_X2_byLetter rfl rfl rfl (by decide +kernel) ⟨Nat.le_of_ble_eq_true rfl, Nat.le_of_ble_eq_true rfl⟩) (by decide) rfl rfl rfl rfl (Nat.le_of_ble_eq_true rfl) dX2_leastLetter_21 (fun r21 M21 q21 => ?_)
        obtain ⟨rfl, rfl⟩ := q21
        refine zz_istore (pc := 24) (lv' := [(0, _), (1, _), (2, _), (3, _), (4, _), (5, _), (6, _)]) E dX2_leastLetter_24 (by decide) rfl ?_
        refine zz_iload (pc := 26) E dX2_leastLetter_26 rfl ?_
        refine zz_bipush (pc := 28) (v := -9) E dX2_leastLetter_28 (by decide) ?_
        refine zz_icmp_eq (pc := 30) (tgt := 54) E dX2_leastLetter_30 (by decide) (fun h30 => ?_) (fun h30 => ?_)
        · rw [zo_m9 hlm] at h30
          have hh : zbest S v s0 (i + 1) = zbest S v s0 i := by rw [he, h30]
          refine zn_inc (pc := 54) (lv' := [(0, _), (1, _), (2, _), (3, _), (4, _), (5, _), (6, _)]) E dX2_leastLetter_54 rfl (by decide) rfl ?_
          refine zz_goto (pc := 57) (tgt := 10) E dX2_leastLetter_57 (by decide) ?_
          exact zz_to (ih (i + 1) (by omega)) ⟨rfl, rfl, rfl, by rw [hh]; rfl, by rw [hh]; rfl, rfl, trivial⟩
        · obtain ⟨q, hq⟩ : ∃ q, zby S v s0 (some i) = some q := by
            cases hv2 : zby S v s0 (some i) with
            | none => exact absurd (by rw [hv2]; rfl) h30
            | some q => exact ⟨q, rfl⟩
          have hq31 := hlm q hq
          rw [hq] at he ⊢
          refine zz_iload (pc := 33) E dX2_leastLetter_33 rfl ?_
          refine zz_bipush (pc := 35) (v := -9) E dX2_leastLetter_35 (by decide) ?_
          refine zz_icmp_eq (pc := 37) (tgt := 47) E dX2_leastLetter_37 (by decide) (fun h37 => ?_) (fun h37 => ?_)
          · rw [zo_m9 hlb] at h37
            have hh : zbest S v s0 (i + 1) = (some i, some q) := by rw [he, h37]
            refine zz_iload (pc := 47) E dX2_leastLetter_47 rfl ?_
            refine zz_istore_n (pc := 49) (lv' := [(0, _), (1, _), (2, _), (3, _), (4, _), (5, _), (6, _)]) E dX2_leastLetter_49 (by decide) rfl ?_
            refine zz_iload (pc := 50) E dX2_leastLetter_50 rfl ?_
            refine zz_istore (pc := 52) (lv' := [(0, _), (1, _), (2, _), (3, _), (4, _), (5, _), (6, _)]) E dX2_leastLetter_52 (by decide) rfl ?_
            refine zn_inc (pc := 54) (lv' := [(0, _), (1, _), (2, _), (3, _), (4, _), (5, _), (6, _)]) E dX2_leastLetter_54 rfl (by decide) rfl ?_
            refine zz_goto (pc := 57) (tgt := 10) E dX2_leastLetter_57 (by decide) ?_
            exact zz_to (ih (i + 1) (by omega)) ⟨rfl, rfl, rfl, by rw [hh]; rfl, by rw [hh]; rfl, rfl, trivial⟩
          · obtain ⟨n, hn⟩ : ∃ q, (zbest S v s0 i).2 = some q := by
              cases hv2 : (zbest S v s0 i).2 with
              | none => exact absurd (by rw [hv2]; rfl) h37
              | some q => exact ⟨q, rfl⟩
            have hn31 := hlb n hn
            rw [hn] at he
            refine zz_iload (pc := 40) E dX2_leastLetter_40 rfl ?_
            refine zz_eqi (y := nI q) rfl ?_
            refine zz_iload (pc := 42) E dX2_leastLetter_42 rfl ?_
            refine zz_eqi (y := nI n) (by rw [hn]; rfl) ?_
            refine zn_icmp_ge (pc := 44) (tgt := 54) E dX2_leastLetter_44 (by decide) (by omega) (by omega) (fun h44 => ?_) (fun h44 => ?_)
            · have hh : zbest S v s0 (i + 1) = zbest S v s0 i := by rw [he]; exact if_neg (by omega)
              refine zn_inc (pc := 54) (lv' := [(0, _), (1, _), (2, _), (3, _), (4, _), (5, _), (6, _)]) E dX2_leastLetter_54 rfl (by decide) rfl ?_
              refine zz_goto (pc := 57) (tgt := 10) E dX2_leastLetter_57 (by decide) ?_
              exact zz_to (ih (i + 1) (by omega)) ⟨rfl, rfl, rfl, by rw [hh]; rfl, by rw [hh]; rfl, rfl, trivial⟩
            · have hh : zbest S v s0 (i + 1) = (some i, some q) := by rw [he]; exact if_pos h44
              refine zz_iload (pc := 47) E dX2_leastLetter_47 rfl ?_
              refine zz_istore_n (pc := 49) (lv' := [(0, _), (1, _), (2, _), (3, _), (4, _), (5, _), (6, _)]) E dX2_leastLetter_49 (by decide) rfl ?_
              refine zz_iload (pc := 50) E dX2_leastLetter_50 rfl ?_
              refine zz_istore (pc := 52) (lv' := [(0, _), (1, _), (2, _), (3, _), (4, _), (5, _), (6, _)]) E dX2_leastLetter_52 (by decide) rfl ?_
              refine zn_inc (pc := 54) (lv' := [(0, _), (1, _), (2, _), (3, _), (4, _), (5, _), (6, _)]) E dX2_leastLetter_54 rfl (by decide) rfl ?_
              refine zz_goto (pc := 57) (tgt := 10) E dX2_leastLetter_57 (by decide) ?_
              exact zz_to (ih (i + 1) (by omega)) ⟨rfl, rfl, rfl, by rw [hh]; rfl, by rw [hh]; rfl, rfl, trivial⟩
  exact zz_to (key 3 0 (by omega)) ⟨rfl, rfl, rfl, rfl, rfl, rfl, trivial⟩

theorem inX2_countFound_X2 : ∀ w ∈ u_ws RX2 TX2 1, w ∈ wsX2_countFound := by decide +kernel
theorem lkX2_countFound_9 : Cond.fieldLink RX2 9 RX2 "ofSign" "[I" ∈ wsX2_countFound := by decide +kernel
set_option maxHeartbeats 4000000 in
set_option maxRecDepth 100000 in
theorem kkX2_countFound (l : Launch) (G : zz_C) (hJ : zz_J G) (M : zz_M)  : Met l yX2_countFound wsX2_countFound ({ frames := 0, cells := 0, slots := 0, locals := 0 } : Room) (zz_P G M [.ref (G.2.2 11)]) (zz_Qi G (fun r M1 => M1 = M ∧ r = nI (zcnt (M 12) 6))) 0 0 (zz_A G) := by
  refine zz_start hJ (by decide) rfl (Nat.le_of_ble_eq_true rfl) ?_
  intro p e s m below meth c E hr hlk
  have hts := E.2.2.2.2.1
  show zz_Z p l e (headSpec wsX2_countFound ({ frames := 0, cells := 0, slots := 0, locals := 0 } : Room)).room s m ([.ref (G.2.2 11)] : List Value).toArray below meth c 0 0 (MQ below (zz_Qi G (fun r M1 => M1 = M ∧ r = nI (zcnt (M 12) 6))) ([.ref (G.2.2 11)] : List Value).toArray s 0 0 (zz_A G)) 6 G (zz_A G) M 0 [(0, .ref (G.2.2 11))] []
  refine zz_iconst (pc := 0) (v := nI 0) E dX2_countFound_0 (by decide) ?_
  refine zz_istore_n (pc := 1) (lv' := [(0, _), (1, _)]) E dX2_countFound_1 (by decide) rfl ?_
  refine zz_aload_n (pc := 2) E dX2_countFound_2 rfl ?_
  refine zz_gf (pc := 3) E 11 (by decide) rfl rfl inX2_countFound_X2 0 (by decide) lkX2_countFound_9 (fun _ h => h) rfl dX2_countFound_3 ?_
  refine zz_astore_n (pc := 6) (lv' := [(0, _), (1, _), (2, _)]) E dX2_countFound_6 (by decide) rfl ?_
  refine zz_aload_n (pc := 7) E dX2_countFound_7 rfl ?_
  refine zz_alen (pc := 8) E 12 (n := 6) (by decide) rfl dX2_countFound_8 ?_
  refine zz_istore_n (pc := 9) (lv' := [(0, _), (1, _), (2, _), (3, _)]) E dX2_countFound_9 (by decide) rfl ?_
  refine zz_iconst (pc := 10) (v := nI 0) E dX2_countFound_10 (by decide) ?_
  refine zz_istore (pc := 11) (lv' := [(0, _), (1, _), (2, _), (3, _), (4, _)]) E dX2_countFound_11 (by decide) rfl ?_
  have key : ∀ (j i : Nat), i + j = 6 → zz_Z p l e (headSpec wsX2_countFound ({ frames := 0, cells := 0, slots := 0, locals := 0 } : Room)).room s m ([.ref (G.2.2 11)] : List Value).toArray below meth c 0 0 (MQ below (zz_Qi G (fun r M1 => M1 = M ∧ r = nI (zcnt (M 12) 6))) ([.ref (G.2.2 11)] : List Value).toArray s 0 0 (zz_A G)) 6 G (zz_A G) M 13 [(1, .int (nI (zcnt (M 12) i))), (2, .ref (G.2.2 12)), (3, .int (nI 6)), (4, .int (nI i))] [] := by
    intro j
    induction j with
    | zero =>
      intro i hi
      refine zz_iload (pc := 13) E dX2_countFound_13 rfl ?_
      refine zz_iload_n (pc := 15) E dX2_countFound_15 rfl ?_
      refine zn_icmp_ge (pc := 16) (tgt := 41) E dX2_countFound_16 (by decide) (by omega) (by omega) (fun h16 => ?_) (fun h16 => ?_)
      · refine zz_iload_n (pc := 41) E dX2_countFound_41 rfl ?_
        exact zz_iret (pc := 42) E hr hlk dX2_countFound_42 ⟨rfl, by rw [show i = 6 by omega]⟩
      · exact absurd h16 (by omega)
    | succ j ih =>
      intro i hi
      refine zz_iload (pc := 13) E dX2_countFound_13 rfl ?_
      refine zz_iload_n (pc := 15) E dX2_countFound_15 rfl ?_
      refine zn_icmp_ge (pc := 16) (tgt := 41) E dX2_countFound_16 (by decide) (by omega) (by omega) (fun h16 => ?_) (fun h16 => ?_)
      · exact absurd h16 (by omega)
      · refine zz_aload_n (pc := 19) E dX2_countFound_19 rfl ?_
        refine zz_iload (pc := 20) E dX2_countFound_20 rfl ?_
        refine zz_iald (pc := 22) E 12 (_) (n := 6) (by decide) rfl rfl (by omega) (by decide) dX2_countFound_22 ?_
        refine zz_istore (pc := 23) (lv' := [(1, _), (2, _), (3, _), (4, _), (5, _)]) E dX2_countFound_23 (by decide) rfl ?_
        refine zz_iload (pc := 25) E dX2_countFound_25 rfl ?_
        refine zz_bipush (pc := 27) (v := -9) E dX2_countFound_27 (by decide) ?_
        refine zz_icmp_eq (pc := 29) (tgt := 35) E dX2_countFound_29 (by decide) (fun h29 => ?_) (fun h29 => ?_)
        · refine zn_inc (pc := 35) (lv' := [(1, _), (2, _), (3, _), (4, _), (5, _)]) E dX2_countFound_35 rfl (by decide) rfl ?_
          refine zz_goto (pc := 38) (tgt := 13) E dX2_countFound_38 (by decide) ?_
          exact zz_to (ih (i + 1) (by omega)) ⟨by rw [zcnt]; first | (rw [if_pos h29]; rfl) | (rw [if_neg h29]; rfl), rfl, rfl, rfl, trivial⟩
        · refine zn_inc (pc := 32) (lv' := [(1, _), (2, _), (3, _), (4, _), (5, _)]) E dX2_countFound_32 rfl (by decide) rfl ?_
          refine zn_inc (pc := 35) (lv' := [(1, _), (2, _), (3, _), (4, _), (5, _)]) E dX2_countFound_35 rfl (by decide) rfl ?_
          refine zz_goto (pc := 38) (tgt := 13) E dX2_countFound_38 (by decide) ?_
          exact zz_to (ih (i + 1) (by omega)) ⟨by rw [zcnt]; first | (rw [if_pos h29]; rfl) | (rw [if_neg h29]; rfl), rfl, rfl, rfl, trivial⟩
  exact zz_to (key 6 0 (by omega)) ⟨rfl, rfl, rfl, rfl, trivial⟩

/-! sets of signs -/
def zfw (v : Nat → Option Nat) : List Nat → Nat
  | [] => 0
  | x :: t => match v x with
    | none => 2 ^ x
    | some _ => zfw v t ||| 2 ^ x
theorem zshl_ok : ∀ x, x < 6 → nI 1 <<< (nI x &&& 31) = nI (2 ^ x) := by decide +kernel
theorem zor_ok : ∀ w, w < 64 → ∀ u, u < 64 → nI w ||| nI u = nI (w ||| u) := by decide +kernel
theorem zpw_lt : ∀ x, x < 6 → 2 ^ x < 64 := by decide
theorem zor_lt {w u : Nat} (hw : w < 64) (hu : u < 64) : w ||| u < 64 := Nat.or_lt_two_pow (n := 6) hw hu
theorem zfw_lt (v : Nat → Option Nat) : ∀ (L : List Nat), (∀ x ∈ L, x < 6) → zfw v L < 64
  | [], _ => (show 0 < 64 by decide)
  | x :: t, h => by
    rw [zfw]
    have hx := zpw_lt x (h x List.mem_cons_self)
    cases v x with
    | none => exact hx
    | some _ => exact zor_lt (zfw_lt v t (fun y hy => h y (List.mem_cons_of_mem _ hy))) hx

set_option maxHeartbeats 4000000 in
set_option maxRecDepth 100000 in
theorem kkX2_firstsWithin (l : Launch) (G : zz_C) (hJ : zz_J G) (M : zz_M) (v : Nat → Option Nat) (a mo B : Nat) (hv : znm M v) (hB : zbd v B) (hBs : B < 100000) (hz : zok a 6 mo = true) (hmo : mo < 10) : Met l yX2_firstsWithin wsX2_firstsWithin ({ frames := 2, cells := 0, slots := 0, locals := 41 } : Room) (zz_P G M [.ref (G.2.2 11), .int (nI a)]) (zz_Qi G (fun r M1 => M1 = M ∧ r = nI (zfw v (zr a)))) 0 0 (zz_A G) := by
  refine zz_start hJ (by decide) rfl (Nat.le_of_ble_eq_true rfl) ?_
  intro p e s m below meth c E hr hlk
  have hts := E.2.2.2.2.1
  show zz_Z p l e (headSpec wsX2_firstsWithin ({ frames := 2, cells := 0, slots := 0, locals := 41 } : Room)).room s m ([.ref (G.2.2 11), .int (nI a)] : List Value).toArray below meth c 0 0 (MQ below (zz_Qi G (fun r M1 => M1 = M ∧ r = nI (zfw v (zr a)))) ([.ref (G.2.2 11), .int (nI a)] : List Value).toArray s 0 0 (zz_A G)) 5 G (zz_A G) M 0 [(0, .ref (G.2.2 11)), (1, .int (nI a))] []
  have ha : a < 2 ^ 31 := by
    have h1 := zok_lt hz (by omega)
    have h2 : 10 ^ mo ≤ 10 ^ 9 := Nat.pow_le_pow_right (by decide) (by omega)
    omega
  refine zz_iconst (pc := 0) (v := nI 0) E dX2_firstsWithin_0 (by decide) ?_
  refine zz_istore_n (pc := 1) (lv' := [(0, _), (1, _), (2, _)]) E dX2_firstsWithin_1 (by decide) rfl ?_
  refine zz_iload_n (pc := 2) E dX2_firstsWithin_2 rfl ?_
  refine zz_istore_n (pc := 3) (lv' := [(0, _), (1, _), (2, _), (3, _)]) E dX2_firstsWithin_3 (by decide) rfl ?_
  have key : ∀ (j b : Nat) (K : List Nat), (zd b).length = j → b < 2 ^ 31 → zok b 6 mo = true → zr a = zr b ++ K → zz_Z p l e (headSpec wsX2_firstsWithin ({ frames := 2, cells := 0, slots := 0, locals := 41 } : Room)).room s m ([.ref (G.2.2 11), .int (nI a)] : List Value).toArray below meth c 0 0 (MQ below (zz_Qi G (fun r M1 => M1 = M ∧ r = nI (zfw v (zr a)))) ([.ref (G.2.2 11), .int (nI a)] : List Value).toArray s 0 0 (zz_A G)) 5 G (zz_A G) M 4 [(0, .ref (G.2.2 11)), (2, .int (nI (zfw v K))), (3, .int (nI b))] [] := by
    intro j
    induction j with
    | zero =>
      intro b K hj hb hzb he
      have hb0 := zd_len0 hj (by omega)
      subst hb0
      refine zz_iload_n (pc := 4) E dX2_firstsWithin_4 rfl ?_
      refine zn_if_le (pc := 5) (tgt := 49) E dX2_firstsWithin_5 (by decide) (by omega) (fun h5 => ?_) (fun h5 => ?_)
      · refine zz_iload_n (pc := 49) E dX2_firstsWithin_49 rfl ?_
        exact zz_iret (pc := 50) E hr hlk dX2_firstsWithin_50 ⟨rfl, by rw [he, zr_0, List.nil_append]⟩
      · exact absurd h5 (by omega)
    | succ j ih =>
      intro b K hj hb hzb he
      have h0 : 0 < b := by
        rcases Nat.eq_zero_or_pos b with h | h
        · rw [h] at hj; cases hj
        · exact h
      have hd := zok_digit hzb h0 (by omega)
      rw [zd_pos h0 (by omega), List.length_cons] at hj
      have hlt : ∀ q, v (b % 10 - 1) = some q → q < 2 ^ 31 := fun q hq => by have := hB _ (by omega) q hq; omega
      have hK6 : ∀ x ∈ K, x < 6 := fun x hx => zr_lt hz x (by rw [he]; exact List.mem_append_right _ hx)
      rw [zr_pos h0 (by omega)] at he
      refine zz_iload_n (pc := 4) E dX2_firstsWithin_4 rfl ?_
      refine zn_if_le (pc := 5) (tgt := 49) E dX2_firstsWithin_5 (by decide) (by omega) (fun h5 => ?_) (fun h5 => ?_)
      · exact absurd h5 (by omega)
      · refine zz_iload_n (pc := 8) E dX2_firstsWithin_8 rfl ?_
        refine zz_bipush (pc := 9) (v := nI 10) E dX2_firstsWithin_9 (by decide) ?_
        refine zn_irem (pc := 11) E dX2_firstsWithin_11 (by omega) (by omega) (by omega) ?_
        refine zz_iconst (pc := 12) (v := nI 1) E dX2_firstsWithin_12 (by decide) ?_
        refine zn_isub (pc := 13) E dX2_firstsWithin_13 (by omega) ?_
        refine zz_istore (pc := 14) (lv' := [(0, _), (2, _), (3, _), (4, _)]) E dX2_firstsWithin_14 (by decide) rfl ?_
        refine zz_aload_n (pc := 16) E dX2_firstsWithin_16 rfl ?_
        refine zz_iload (pc := 17) E dX2_firstsWithin_17 rfl ?_
        refine zz_ciV (pc := 19) E 11 (kkX2_of l G hJ _  v _ hv (by omega)) (cwV 1 hts gX2_firstsWithin_X2_of rfl rfl rfl (by decide +kernel) ⟨Nat.le_of_ble_eq_true rfl, Nat.le_of_ble_eq_true rfl⟩) (by decide) rfl rfl rfl rfl (Nat.le_of_ble_eq_true rfl) dX2_firstsWithin_19 (fun r19 M19 q19 => ?_)
        obtain ⟨rfl, rfl⟩ := q19
        refine zz_bipush (pc := 22) (v := -9) E dX2_firstsWithin_22 (by decide) ?_
        refine zz_icmp_ne (pc := 24) (tgt := 34) E dX2_firstsWithin_24 (by decide) (fun h24 => ?_) (fun h24 => ?_)
        · obtain ⟨q, hq⟩ : ∃ q, v (b % 10 - 1) = some q := by
            cases hv2 : v (b % 10 - 1) with
            | none => exact absurd (by rw [hv2]; rfl) h24
            | some q => exact ⟨q, rfl⟩
          refine zz_iload_n (pc := 34) E dX2_firstsWithin_34 rfl ?_
          refine zz_iconst (pc := 35) (v := nI 1) E dX2_firstsWithin_35 (by decide) ?_
          refine zz_iload (pc := 36) E dX2_firstsWithin_36 rfl ?_
          refine zz_ishl (pc := 38) E dX2_firstsWithin_38 ?_
          refine zz_eqi (y := nI (2 ^ (b % 10 - 1))) (zshl_ok _ (by omega)) ?_
          refine zz_ior (pc := 39) E dX2_firstsWithin_39 ?_
          refine zz_eqi (y := nI (zfw v K ||| 2 ^ (b % 10 - 1))) (zor_ok _ (zfw_lt v K hK6) _ (zpw_lt _ (by omega))) ?_
          refine zz_istore_n (pc := 40) (lv' := [(0, _), (2, _), (3, _), (4, _)]) E dX2_firstsWithin_40 (by decide) rfl ?_
          refine zz_iload_n (pc := 41) E dX2_firstsWithin_41 rfl ?_
          refine zz_bipush (pc := 42) (v := nI 10) E dX2_firstsWithin_42 (by decide) ?_
          refine zn_idiv (pc := 44) E dX2_firstsWithin_44 (by omega) (by omega) (by omega) ?_
          refine zz_istore_n (pc := 45) (lv' := [(0, _), (2, _), (3, _), (4, _)]) E dX2_firstsWithin_45 (by decide) rfl ?_
          refine zz_goto (pc := 46) (tgt := 4) E dX2_firstsWithin_46 (by decide) ?_
          exact zz_to (ih (b / 10) ((b % 10 - 1) :: K) (by omega) (by omega) (zok_half hzb (by omega)) (by rw [he]; simp)) ⟨rfl, by first | (rw [zfw, h24]; rfl) | (rw [zfw, hq]; rfl), rfl, trivial⟩
        · rw [zo_m9 hlt] at h24
          refine zz_iconst (pc := 27) (v := nI 1) E dX2_firstsWithin_27 (by decide) ?_
          refine zz_iload (pc := 28) E dX2_firstsWithin_28 rfl ?_
          refine zz_ishl (pc := 30) E dX2_firstsWithin_30 ?_
          refine zz_eqi (y := nI (2 ^ (b % 10 - 1))) (zshl_ok _ (by omega)) ?_
          refine zz_goto (pc := 31) (tgt := 40) E dX2_firstsWithin_31 (by decide) ?_
          refine zz_istore_n (pc := 40) (lv' := [(0, _), (2, _), (3, _), (4, _)]) E dX2_firstsWithin_40 (by decide) rfl ?_
          refine zz_iload_n (pc := 41) E dX2_firstsWithin_41 rfl ?_
          refine zz_bipush (pc := 42) (v := nI 10) E dX2_firstsWithin_42 (by decide) ?_
          refine zn_idiv (pc := 44) E dX2_firstsWithin_44 (by omega) (by omega) (by omega) ?_
          refine zz_istore_n (pc := 45) (lv' := [(0, _), (2, _), (3, _), (4, _)]) E dX2_firstsWithin_45 (by decide) rfl ?_
          refine zz_goto (pc := 46) (tgt := 4) E dX2_firstsWithin_46 (by decide) ?_
          exact zz_to (ih (b / 10) ((b % 10 - 1) :: K) (by omega) (by omega) (zok_half hzb (by omega)) (by rw [he]; simp)) ⟨rfl, by first | (rw [zfw, h24]; rfl) | (rw [zfw, hq]; rfl), rfl, trivial⟩
  exact zz_to (key _ a [] rfl ha hz (by simp)) ⟨rfl, rfl, rfl, trivial⟩
end
section
/-! the norms as the one fixed point -/
/-- a is at most b, none being above all -/
def ole (a b : Option Nat) : Prop := ∀ y, b = some y → ∃ x, a = some x ∧ x ≤ y
theorem ole_rf (a : Option Nat) : ole a a := fun y h => ⟨y, h, Nat.le_refl _⟩
theorem ole_tr {a b c : Option Nat} (h1 : ole a b) (h2 : ole b c) : ole a c := fun z hz => by
  obtain ⟨y, hy, hl⟩ := h2 z hz
  obtain ⟨x, hx, hk⟩ := h1 y hy
  exact ⟨x, hx, Nat.le_trans hk hl⟩
theorem ole_as {a b : Option Nat} (h1 : ole a b) (h2 : ole b a) : a = b := by
  cases a with
  | none =>
    cases b with
    | none => rfl
    | some y => obtain ⟨x, hx, -⟩ := h1 y rfl; cases hx
  | some x =>
    obtain ⟨y, hy, hl⟩ := h2 x rfl
    obtain ⟨x2, hx2, hk⟩ := h1 y hy
    cases hx2
    rw [hy, Nat.le_antisymm hk hl]
theorem ole_none (a : Option Nat) : ole a none := fun y h => by cases h
theorem zoa_some {a b : Option Nat} {n : Nat} (h : zoa a b = some n) : ∃ x y, a = some x ∧ b = some y ∧ n = x + y := by
  cases a with
  | none => cases h
  | some x =>
    cases b with
    | none => cases h
    | some y => cases h; exact ⟨x, y, rfl, rfl, rfl⟩
theorem znorm_mono {v w : Nat → Option Nat} : ∀ {L : List Nat}, (∀ x ∈ L, ole (w x) (v x)) → ole (znorm w L) (znorm v L)
  | [], _ => ole_rf _
  | x :: L, h => by
    intro n hn
    obtain ⟨a, b, ha, hb, rfl⟩ := zoa_some (show zoa (v x) (znorm v L) = some n from hn)
    obtain ⟨a2, ha2, hl⟩ := h x List.mem_cons_self a ha
    obtain ⟨b2, hb2, hk⟩ := znorm_mono (L := L) (fun y hy => h y (List.mem_cons_of_mem _ hy)) b hb
    refine ⟨a2 + b2, ?_, Nat.add_le_add hl hk⟩
    show zoa (w x) (znorm w L) = _
    rw [ha2, hb2]
    rfl
theorem znorm_mem {v : Nat → Option Nat} : ∀ {L : List Nat} {n : Nat}, znorm v L = some n → ∀ x ∈ L, ∃ b, v x = some b ∧ b ≤ n
  | y :: L, n, h, x, hx => by
    obtain ⟨a, b, ha, hb, rfl⟩ := zoa_some (show zoa (v y) (znorm v L) = some n from h)
    rcases List.mem_cons.mp hx with rfl | hx
    · exact ⟨a, ha, Nat.le_add_right _ _⟩
    · obtain ⟨c, hc, hl⟩ := znorm_mem hb x hx
      exact ⟨c, hc, Nat.le_trans hl (Nat.le_add_left _ _)⟩
theorem znorm_congr {v w : Nat → Option Nat} : ∀ {L : List Nat}, (∀ x ∈ L, w x = v x) → znorm w L = znorm v L
  | [], _ => rfl
  | x :: L, h => by
    show zoa (w x) (znorm w L) = zoa (v x) (znorm v L)
    rw [h x List.mem_cons_self, znorm_congr (fun y hy => h y (List.mem_cons_of_mem _ hy))]
/-- a norm by a letter: the rule, its row's norm -/
theorem zby_some {S v : Nat → Option Nat} {s a n : Nat} (h : zby S v s (some a) = some n) : ∃ r q, S (3 * s + a) = some r ∧ znorm v (zr r) = some q ∧ n = q + 1 := by
  have h : (match S (3 * s + a) with | none => none | some r => (znorm v (zr r)).map (· + 1)) = some n := h
  cases hs : S (3 * s + a) with
  | none => rw [hs] at h; cases h
  | some r =>
    rw [hs] at h
    have h : (znorm v (zr r)).map (· + 1) = some n := h
    cases hn : znorm v (zr r) with
    | none => rw [hn] at h; cases h
    | some q => rw [hn] at h; cases h; exact ⟨r, q, rfl, hn, rfl⟩
theorem zby_of {S v : Nat → Option Nat} {s a r q : Nat} (h : S (3 * s + a) = some r) (hq : znorm v (zr r) = some q) : zby S v s (some a) = some (q + 1) := by
  show (match S (3 * s + a) with | none => none | some r => (znorm v (zr r)).map (· + 1)) = some (q + 1)
  rw [h]
  show (znorm v (zr r)).map (· + 1) = _
  rw [hq]
  rfl
theorem zby_mono {S v w : Nat → Option Nat} (hV : zV S) {s a : Nat} (hs : s < 6) (ha : a < 3) (h : ∀ x, x < 6 → ole (w x) (v x)) : ole (zby S w s (some a)) (zby S v s (some a)) := by
  intro n hn
  obtain ⟨r, q, hr, hq, rfl⟩ := zby_some hn
  have hz := hV.1 _ (by omega) r hr
  obtain ⟨q2, hq2, hl⟩ := znorm_mono (fun x hx => h x (zr_lt hz x hx)) q hq
  exact ⟨q2 + 1, zby_of hr hq2, by omega⟩
theorem zbest_ub {S v : Nat → Option Nat} {s : Nat} : ∀ {l a : Nat}, a < l → ole (zbest S v s l).2 (zby S v s (some a))
  | l + 1, a, ha => by
    intro n hn
    by_cases e : a = l
    · subst e
      rw [zbest, hn]
      cases h2 : (zbest S v s a).2 with
      | none => exact ⟨n, rfl, Nat.le_refl _⟩
      | some m =>
        show ∃ x, (if n < m then (some a, some n) else zbest S v s a).2 = some x ∧ x ≤ n
        by_cases hm : n < m
        · rw [if_pos hm]; exact ⟨n, rfl, Nat.le_refl _⟩
        · rw [if_neg hm]; exact ⟨m, h2, by omega⟩
    · obtain ⟨m, hm, hl⟩ := zbest_ub (l := l) (a := a) (by omega) n hn
      rw [zbest]
      cases h1 : zby S v s (some l) with
      | none => exact ⟨m, hm, hl⟩
      | some k =>
        rw [hm]
        show ∃ x, (if k < m then (some l, some k) else zbest S v s l).2 = some x ∧ x ≤ n
        by_cases hk : k < m
        · rw [if_pos hk]; exact ⟨k, rfl, by omega⟩
        · rw [if_neg hk]; exact ⟨m, hm, hl⟩
theorem zmin_ub {S v : Nat → Option Nat} {s a : Nat} (ha : a < 3) : ole (zmin S v s) (zby S v s (some a)) := zbest_ub ha
theorem zmin_ex {S v : Nat → Option Nat} {s n : Nat} (h : zmin S v s = some n) : ∃ a, a < 3 ∧ zby S v s (some a) = some n := by
  unfold zmin at h
  rw [← zbest_by] at h
  cases ho : (zbest S v s 3).1 with
  | none => rw [ho] at h; cases h
  | some a => exact ⟨a, zbest_lt S v s 3 a ho, by rw [ho] at h; exact h⟩
theorem zmin_mono {S v w : Nat → Option Nat} (hV : zV S) {s : Nat} (hs : s < 6) (h : ∀ x, x < 6 → ole (w x) (v x)) : ole (zmin S w s) (zmin S v s) := by
  intro n hn
  obtain ⟨a, ha, hb⟩ := zmin_ex hn
  obtain ⟨m, hm, hl⟩ := zby_mono hV hs ha h n hb
  obtain ⟨k, hk, hl2⟩ := zmin_ub ha m hm
  exact ⟨k, hk, by omega⟩
theorem zmin_congr {S v w : Nat → Option Nat} (hV : zV S) {s : Nat} (hs : s < 6) (h : ∀ x, x < 6 → w x = v x) : zmin S w s = zmin S v s := ole_as (zmin_mono hV hs (fun x hx => by rw [h x hx]; exact ole_rf _)) (zmin_mono hV hs (fun x hx => by rw [h x hx]; exact ole_rf _))
/-- a fixed point, and only one -/
def zfix (S v : Nat → Option Nat) : Prop := ∀ s, s < 6 → v s = zmin S v s
theorem zfix_le {S v w : Nat → Option Nat} (hV : zV S) (hv : zfix S v) (hw : zfix S w) : ∀ (n : Nat) (s : Nat), s < 6 → v s = some n → ∃ x, w s = some x ∧ x ≤ n := by
  intro n
  induction n using Nat.strongRecOn with
  | ind n ih =>
    intro s hs hn
    rw [hv s hs] at hn
    obtain ⟨a, ha, hb⟩ := zmin_ex hn
    obtain ⟨r, q, hr, hq, rfl⟩ := zby_some hb
    have hz := hV.1 _ (by omega) r hr
    obtain ⟨q2, hq2, hl⟩ := znorm_mono (v := v) (w := w) (L := zr r) (fun x hx y hy => by
      obtain ⟨b, hb2, hbl⟩ := znorm_mem hq x hx
      rw [hy] at hb2
      cases hb2
      exact ih y (by omega) x (zr_lt hz x hx) hy) q hq
    obtain ⟨k, hk, hl2⟩ := zmin_ub ha _ (zby_of hr hq2)
    exact ⟨k, by rw [hw s hs]; exact hk, by omega⟩
theorem zfix_uniq {S v w : Nat → Option Nat} (hV : zV S) (hv : zfix S v) (hw : zfix S w) : ∀ s, s < 6 → v s = w s := fun s hs => ole_as (fun n hn => zfix_le hV hw hv n s hs hn) (fun n hn => zfix_le hV hv hw n s hs hn)
/-! one update after another -/
def zvu (v : Nat → Option Nat) (s : Nat) (o : Option Nat) : Nat → Option Nat := fun t => if t = s then o else v t
theorem zvu_same (v : Nat → Option Nat) (s : Nat) (o : Option Nat) : zvu v s o s = o := if_pos rfl
theorem zvu_ne (v : Nat → Option Nat) {s t : Nat} (o : Option Nat) (h : t ≠ s) : zvu v s o t = v t := if_neg h
/-- none comes to be worse by an update -/
def zdn (S v : Nat → Option Nat) : Prop := ∀ s, s < 6 → ole (zmin S v s) (v s)
theorem zdn_low {v : Nat → Option Nat} {s : Nat} {o : Option Nat} (h : ole o (v s)) : ∀ t, ole (zvu v s o t) (v t) := fun t => by
  by_cases e : t = s
  · subst e; rw [zvu_same]; exact h
  · rw [zvu_ne _ _ e]; exact ole_rf _
/-- an update by something between the least and what was there -/
theorem zdn_up {S v : Nat → Option Nat} (hV : zV S) (h : zdn S v) {s : Nat} {o : Option Nat} (hs : s < 6) (h1 : ole (zmin S v s) o) (h2 : ole o (v s)) : zdn S (zvu v s o) := by
  intro t ht
  have hm := zmin_mono hV ht (fun x _ => zdn_low h2 x)
  by_cases e : t = s
  · subst e; rw [zvu_same]; exact ole_tr hm h1
  · rw [zvu_ne _ _ e]; exact ole_tr hm (h t ht)
/-- how many have a norm -/
def zhv (v : Nat → Option Nat) : Nat := ((List.range 6).filter (fun s => (v s).isSome)).length
def zg (c : Nat) : Nat := (3 ^ c - 1) / 2
theorem zg_ok : ∀ c, c < 6 → 1 + 3 * zg c ≤ zg (c + 1) := by decide
theorem zg_mono : ∀ c, c ≤ 6 → ∀ d, d ≤ 6 → c ≤ d → zg c ≤ zg d := by decide
theorem zhv_le (v : Nat → Option Nat) : zhv v ≤ 6 := List.length_filter_le _ _
theorem zfl_le {p q : Nat → Bool} : ∀ (l : List Nat), (∀ x ∈ l, p x = true → q x = true) → (l.filter p).length ≤ (l.filter q).length
  | [], _ => Nat.le_refl _
  | x :: l, h => by
    have ih := zfl_le l (fun y hy => h y (List.mem_cons_of_mem _ hy))
    cases hp : p x with
    | false =>
      rw [List.filter_cons_of_neg (by simp [hp])]
      refine Nat.le_trans ih ?_
      cases hq : q x with
      | false => rw [List.filter_cons_of_neg (by simp [hq])]; exact Nat.le_refl _
      | true => rw [List.filter_cons_of_pos hq, List.length_cons]; omega
    | true =>
      rw [List.filter_cons_of_pos hp, List.filter_cons_of_pos (h x List.mem_cons_self hp), List.length_cons, List.length_cons]
      omega
theorem zfl_lt {p q : Nat → Bool} {a : Nat} : ∀ (l : List Nat), (∀ x ∈ l, p x = true → q x = true) → a ∈ l → p a = false → q a = true → (l.filter p).length < (l.filter q).length
  | x :: l, h, ha, hp, hq => by
    have hle := zfl_le l (fun y hy => h y (List.mem_cons_of_mem _ hy))
    by_cases e : a = x
    · subst e
      rw [List.filter_cons_of_neg (by simp [hp]), List.filter_cons_of_pos hq, List.length_cons]
      omega
    · have ha2 : a ∈ l := by
        rcases List.mem_cons.mp ha with h1 | h1
        · exact absurd h1 e
        · exact h1
      have ih := zfl_lt l (fun y hy => h y (List.mem_cons_of_mem _ hy)) ha2 hp hq
      cases hpx : p x with
      | false =>
        rw [List.filter_cons_of_neg (by simp [hpx])]
        refine Nat.lt_of_lt_of_le ih ?_
        cases hqx : q x with
        | false => rw [List.filter_cons_of_neg (by simp [hqx])]; exact Nat.le_refl _
        | true => rw [List.filter_cons_of_pos hqx, List.length_cons]; omega
      | true =>
        rw [List.filter_cons_of_pos hpx, List.filter_cons_of_pos (h x List.mem_cons_self hpx), List.length_cons, List.length_cons]
        omega
theorem zhv_up {v : Nat → Option Nat} {s n : Nat} (hs : s < 6) (h : v s = none) : zhv v < zhv (zvu v s (some n)) := by
  unfold zhv
  refine zfl_lt (a := s) _ (fun x _ hx => ?_) (List.mem_range.mpr hs) (by rw [h]; rfl) (by rw [zvu_same]; rfl)
  by_cases e : x = s
  · subst e; rw [zvu_same]; rfl
  · rw [zvu_ne _ _ e]; exact hx
theorem zhv_up2 {v : Nat → Option Nat} {s n : Nat} : zhv v ≤ zhv (zvu v s (some n)) := by
  unfold zhv
  refine zfl_le _ (fun x _ hx => ?_)
  by_cases e : x = s
  · subst e; rw [zvu_same]; rfl
  · rw [zvu_ne _ _ e]; exact hx
/-- the bound of norms found so far -/
def zbg (v : Nat → Option Nat) : Prop := zbd v (zg (zhv v))
theorem zbg_bd {v : Nat → Option Nat} (h : zbg v) : zbd v 364 := fun s hs n hn => Nat.le_trans (h s hs n hn) (Nat.le_trans (zg_mono _ (zhv_le v) 6 (Nat.le_refl _) (zhv_le v)) (by decide))
theorem zbg_up {S v : Nat → Option Nat} (hV : zV S) (h : zbg v) {s n a : Nat} (hs : s < 6) (ha : a < 3) (h1 : zby S v s (some a) = some n) (h2 : ole (some n) (v s)) : zbg (zvu v s (some n)) := by
  intro t ht m hm
  have hle := zhv_up2 (v := v) (s := s) (n := n)
  have hgm := zg_mono _ (zhv_le v) _ (zhv_le _) hle
  by_cases e : t = s
  · subst e
    rw [zvu_same] at hm
    cases hm
    cases hv : v t with
    | some q =>
      obtain ⟨x, hx, hl⟩ := h2 q hv
      cases hx
      have := h t ht q hv
      omega
    | none =>
      have hlt := zhv_up (n := n) ht hv
      have hb := zby_le hV h ht (fun a ha2 => by cases ha2; exact ha) h1
      have h6 := zhv_le (zvu v t (some n))
      have hk := zg_ok (zhv v) (by omega)
      have hk2 := zg_mono (zhv v + 1) (by omega) _ h6 hlt
      omega
  · rw [zvu_ne _ _ e] at hm
    have := h t ht m hm
    omega

def zit (S : Nat → Option Nat) : Nat → (Nat → Option Nat)
  | 0 => fun _ => none
  | n + 1 => zvu (zit S n) (n % 6) (zmin S (zit S n) (n % 6))
theorem zvu_none {v : Nat → Option Nat} {s : Nat} (h : v s = none) : zvu v s none = v := by
  funext t
  by_cases e : t = s
  · subst e; rw [zvu_same, h]
  · rw [zvu_ne _ _ e]
theorem zit_ok {S : Nat → Option Nat} (hV : zV S) : ∀ n, zdn S (zit S n) ∧ zbg (zit S n)
  | 0 => ⟨fun s _ => ole_none _, fun s _ n h => by cases h⟩
  | n + 1 => by
    obtain ⟨h1, h2⟩ := zit_ok hV n
    have hs : n % 6 < 6 := Nat.mod_lt _ (by decide)
    rw [zit]
    refine ⟨zdn_up hV h1 hs (ole_rf _) (h1 _ hs), ?_⟩
    cases hm : zmin S (zit S n) (n % 6) with
    | none =>
      have h3 := h1 _ hs
      rw [hm] at h3
      have h4 : zit S n (n % 6) = none := by
        cases hz : zit S n (n % 6) with
        | none => rfl
        | some q => obtain ⟨x, hx, -⟩ := h3 q hz; cases hx
      rw [zvu_none h4]
      exact h2
    | some m =>
      obtain ⟨a, ha, hb⟩ := zmin_ex hm
      exact zbg_up hV h2 hs ha hb (by rw [← hm]; exact h1 _ hs)
theorem zit_dn {S : Nat → Option Nat} (hV : zV S) (n t : Nat) : ole (zit S (n + 1) t) (zit S n t) := zdn_low ((zit_ok hV n).1 _ (Nat.mod_lt _ (by decide))) t
theorem zit_dn2 {S : Nat → Option Nat} (hV : zV S) (n t : Nat) : ∀ m, ole (zit S (n + m) t) (zit S n t)
  | 0 => ole_rf _
  | m + 1 => ole_tr (zit_dn hV (n + m) t) (zit_dn2 hV n t m)
def zvl (o : Option Nat) : Nat := match o with
  | none => 365
  | some a => a
def zmu (v : Nat → Option Nat) : Nat := zvl (v 0) + zvl (v 1) + zvl (v 2) + zvl (v 3) + zvl (v 4) + zvl (v 5)
theorem zvl_le {a b : Option Nat} (h : ole a b) (ha : ∀ x, a = some x → x ≤ 364) : zvl a ≤ zvl b := by
  cases b with
  | none =>
    cases a with
    | none => exact Nat.le_refl _
    | some x => have := ha x rfl; show x ≤ 365; omega
  | some y =>
    obtain ⟨x, rfl, hl⟩ := h y rfl
    exact hl
theorem zvl_eq {a b : Option Nat} (h : zvl a = zvl b) (ha : ∀ x, a = some x → x ≤ 364) (hb : ∀ x, b = some x → x ≤ 364) : a = b := by
  cases a with
  | none =>
    cases b with
    | none => rfl
    | some y => have := hb y rfl; have h : 365 = y := h; omega
  | some x =>
    cases b with
    | none => have := ha x rfl; have h : x = 365 := h; omega
    | some y => have h : x = y := h; rw [h]
theorem zmu_le {v w : Nat → Option Nat} (h : ∀ s, s < 6 → ole (w s) (v s)) (hw : zbd w 364) : zmu w ≤ zmu v := by
  have f : ∀ s, s < 6 → zvl (w s) ≤ zvl (v s) := fun s hs => zvl_le (h s hs) (hw s hs)
  have f0 := f 0 (by decide); have f1 := f 1 (by decide); have f2 := f 2 (by decide); have f3 := f 3 (by decide); have f4 := f 4 (by decide); have f5 := f 5 (by decide)
  unfold zmu
  omega
theorem zmu_eq {v w : Nat → Option Nat} (h : ∀ s, s < 6 → ole (w s) (v s)) (hw : zbd w 364) (hv : zbd v 364) (e : zmu w = zmu v) : ∀ s, s < 6 → w s = v s := by
  have f : ∀ s, s < 6 → zvl (w s) ≤ zvl (v s) := fun s hs => zvl_le (h s hs) (hw s hs)
  have f0 := f 0 (by decide); have f1 := f 1 (by decide); have f2 := f 2 (by decide); have f3 := f 3 (by decide); have f4 := f 4 (by decide); have f5 := f 5 (by decide)
  unfold zmu at e
  intro s hs
  refine zvl_eq ?_ (hw s hs) (hv s hs)
  match s, hs with
  | 0, _ => omega
  | 1, _ => omega
  | 2, _ => omega
  | 3, _ => omega
  | 4, _ => omega
  | 5, _ => omega
theorem zit_stop {S : Nat → Option Nat} (hV : zV S) : ∀ (b n : Nat), zmu (zit S n) ≤ b → ∃ n0, ∀ m, n0 ≤ m → ∀ s, s < 6 → zit S m s = zit S n0 s := by
  intro b
  induction b with
  | zero =>
    intro n hn
    refine ⟨n, fun m hm s hs => ?_⟩
    have hle : ∀ t, t < 6 → ole (zit S m t) (zit S n t) := fun t _ => by have := zit_dn2 hV n t (m - n); rw [show n + (m - n) = m by omega] at this; exact this
    have h1 := zmu_le hle (zbg_bd (zit_ok hV m).2)
    exact zmu_eq hle (zbg_bd (zit_ok hV m).2) (zbg_bd (zit_ok hV n).2) (by omega) s hs
  | succ b ih =>
    intro n hn
    by_cases hc : ∀ m, n ≤ m → zmu (zit S m) = zmu (zit S n)
    · refine ⟨n, fun m hm s hs => ?_⟩
      have hle : ∀ t, t < 6 → ole (zit S m t) (zit S n t) := fun t _ => by have := zit_dn2 hV n t (m - n); rw [show n + (m - n) = m by omega] at this; exact this
      exact zmu_eq hle (zbg_bd (zit_ok hV m).2) (zbg_bd (zit_ok hV n).2) (hc m hm) s hs
    · obtain ⟨m, hm⟩ := Classical.not_forall.mp hc
      obtain ⟨hm1, hm2⟩ := Classical.not_imp.mp hm
      have hle : ∀ t, t < 6 → ole (zit S m t) (zit S n t) := fun t _ => by have := zit_dn2 hV n t (m - n); rw [show n + (m - n) = m by omega] at this; exact this
      have h1 := zmu_le hle (zbg_bd (zit_ok hV m).2)
      exact ih m (by omega)
theorem zfix_ex {S : Nat → Option Nat} (hV : zV S) : ∃ N, zfix S N ∧ zbd N 364 := by
  obtain ⟨n0, h⟩ := zit_stop hV _ 0 (Nat.le_refl _)
  refine ⟨zit S n0, fun s hs => ?_, zbg_bd (zit_ok hV n0).2⟩
  have h1 := h (6 * n0 + s + 1) (by omega) s hs
  rw [zit, show (6 * n0 + s) % 6 = s by omega, zvu_same] at h1
  rw [← h1]
  exact zmin_congr hV hs (fun x hx => h (6 * n0 + s) (by omega) x hx)
def zolt (a b : Option Nat) : Bool := match a, b with
  | some x, some y => decide (x < y)
  | _, _ => false
def zrk (N : Nat → Option Nat) (t : Nat) : Nat := ((List.range 6).filter (fun u => zolt (N u) (N t))).length
theorem zrk_lt {N : Nat → Option Nat} {x s a b : Nat} (hx : x < 6) (h1 : N x = some a) (h2 : N s = some b) (h : a < b) : zrk N x < zrk N s := by
  unfold zrk
  refine zfl_lt (a := x) _ (fun u _ hu => ?_) (List.mem_range.mpr hx) (by rw [h1]; exact decide_eq_false (by omega)) (by rw [h1, h2]; exact decide_eq_true h)
  rw [h1] at hu
  rw [h2]
  cases hN : N u with
  | none => rw [hN] at hu; cases hu
  | some c =>
    rw [hN] at hu
    have hu : decide (c < a) = true := hu
    rw [decide_eq_true_iff] at hu
    exact decide_eq_true (by omega)
theorem zrk_le {N : Nat → Option Nat} {s a : Nat} (hs : s < 6) (h : N s = some a) : zrk N s ≤ 5 := by
  have h1 : zrk N s < ((List.range 6).filter (fun _ => true)).length := zfl_lt (a := s) _ (fun _ _ _ => rfl) (List.mem_range.mpr hs) (by rw [h]; exact decide_eq_false (by omega)) rfl
  have h2 : ((List.range 6).filter (fun _ => true)).length ≤ (List.range 6).length := List.length_filter_le _ _
  rw [List.length_range] at h2
  omega
theorem zit_ge {S N : Nat → Option Nat} (hV : zV S) (hN : zfix S N) : ∀ n t, t < 6 → ole (N t) (zit S n t)
  | 0, t, _ => ole_none _
  | n + 1, t, ht => by
    rw [zit]
    by_cases e : t = n % 6
    · rw [e, zvu_same, hN _ (Nat.mod_lt _ (by decide))]
      exact zmin_mono hV (Nat.mod_lt _ (by decide)) (fun x hx => zit_ge hV hN n x hx)
    · rw [zvu_ne _ _ e]; exact zit_ge hV hN n t ht
theorem zit_hit {S N : Nat → Option Nat} (hV : zV S) (hN : zfix S N) : ∀ n t a, t < 6 → N t = some a → zrk N t * 6 + t < n → zit S n t = N t
  | 0, t, a, _, _, h => absurd h (by omega)
  | n + 1, t, a, ht, ha, h => by
    rw [zit]
    by_cases e : t = n % 6
    · rw [← e, zvu_same]
      have hge := zmin_mono hV ht (fun x hx => zit_ge hV hN n x hx)
      rw [← hN t ht] at hge
      refine ole_as ?_ hge
      rw [ha]
      intro y hy
      cases hy
      have hm := hN t ht
      rw [ha] at hm
      obtain ⟨b, hb, hby⟩ := zmin_ex hm.symm
      obtain ⟨r, q, hr, hq, hyq⟩ := zby_some hby
      have hz := hV.1 _ (by omega) r hr
      have hq2 : znorm (zit S n) (zr r) = some q := by
        rw [znorm_congr (v := N) (fun x hx => ?_)]
        · exact hq
        · obtain ⟨c, hc, hl⟩ := znorm_mem hq x hx
          have hx6 := zr_lt hz x hx
          have hrk := zrk_lt hx6 hc ha (by omega)
          exact zit_hit hV hN n x c hx6 hc (by omega)
      obtain ⟨k, hk, hl2⟩ := zmin_ub hb _ (zby_of hr hq2)
      exact ⟨k, hk, by omega⟩
    · rw [zvu_ne _ _ e]
      exact zit_hit hV hN n t a ht ha (by omega)
/-- after six rounds the norms stand -/
theorem zit_fix {S : Nat → Option Nat} (hV : zV S) : zfix S (zit S 36) := by
  obtain ⟨N, hN, -⟩ := zfix_ex hV
  have he : ∀ t, t < 6 → zit S 36 t = N t := fun t ht => by
    cases hn : N t with
    | none =>
      have h := zit_ge hV hN 36 t ht
      rw [hn] at h
      cases hz : zit S 36 t with
      | none => rfl
      | some y => obtain ⟨x, hx, -⟩ := h y hz; cases hx
    | some a =>
      have := zrk_le ht hn
      rw [zit_hit hV hN 36 t a ht hn (by omega), hn]
  intro s hs
  rw [he s hs, hN s hs]
  exact (zmin_congr hV hs he).symm
theorem zit_bd {S : Nat → Option Nat} (hV : zV S) (n : Nat) : zbd (zit S n) 364 := zbg_bd (zit_ok hV n).2
end
section
theorem inX2_find_X2 : ∀ w ∈ u_ws RX2 TX2 1, w ∈ wsX2_find := by decide +kernel
theorem lkX2_find_9 : Cond.fieldLink RX2 9 RX2 "ofSign" "[I" ∈ wsX2_find := by decide +kernel
set_option maxHeartbeats 4000000 in
set_option maxRecDepth 100000 in
theorem kkX2_find (l : Launch) (G : zz_C) (hJ : zz_J G) (M : zz_M) (S : Nat → Option Nat) (hV : zV S) (hS : ztab M 1 S) : Met l yX2_find wsX2_find ({ frames := 5, cells := 0, slots := 0, locals := 116 } : Room) (zz_P G M [.ref (G.2.2 11), .ref (G.2.2 1)]) (zz_Qv G (fun M1 => zfr [12] M M1 ∧ znm M1 (zit S 36))) 0 0 (zz_A G) := by
  refine zz_start hJ (by decide) rfl (Nat.le_of_ble_eq_true rfl) ?_
  intro p e s m below meth c E hr hlk
  have hts := E.2.2.2.2.1
  show zz_Z p l e (headSpec wsX2_find ({ frames := 5, cells := 0, slots := 0, locals := 116 } : Room)).room s m ([.ref (G.2.2 11), .ref (G.2.2 1)] : List Value).toArray below meth c 0 0 (MQ below (zz_Qv G (fun M1 => zfr [12] M M1 ∧ znm M1 (zit S 36))) ([.ref (G.2.2 11), .ref (G.2.2 1)] : List Value).toArray s 0 0 (zz_A G)) 4 G (zz_A G) M 0 [(0, .ref (G.2.2 11)), (1, .ref (G.2.2 1))] []
  refine zz_aload_n (pc := 0) E dX2_find_0 rfl ?_
  refine zz_gf (pc := 1) E 11 (by decide) rfl rfl inX2_find_X2 0 (by decide) lkX2_find_9 (fun _ h => h) rfl dX2_find_1 ?_
  refine zz_bipush (pc := 4) (v := -9) E dX2_find_4 (by decide) ?_
  refine zz_cvS (pc := 6) E (kkJ7_fill_53178 l G hJ _ _ _ _ (by decide) (fun _ => rfl) (by decide)) (va_cwS 2 hts gX2_find_J7_fill_53178 rfl rfl rfl (by decide +kernel) ⟨Nat.le_of_ble_eq_true rfl, Nat.le_of_ble_eq_true rfl⟩) rfl rfl (Nat.le_of_ble_eq_true rfl) dX2_find_6 (fun M6 q6 => ?_)
  obtain ⟨f6, w6⟩ := q6
  refine zz_iconst (pc := 9) (v := nI 0) E dX2_find_9 (by decide) ?_
  refine zz_istore_n (pc := 10) (lv' := [(0, _), (1, _), (2, _)]) E dX2_find_10 (by decide) rfl ?_
  have key : ∀ (j i : Nat) (M2 : zz_M), i + j = 6 → zfr [12] M M2 → znm M2 (zit S (6 * i)) → zz_Z p l e (headSpec wsX2_find ({ frames := 5, cells := 0, slots := 0, locals := 116 } : Room)).room s m ([.ref (G.2.2 11), .ref (G.2.2 1)] : List Value).toArray below meth c 0 0 (MQ below (zz_Qv G (fun M1 => zfr [12] M M1 ∧ znm M1 (zit S 36))) ([.ref (G.2.2 11), .ref (G.2.2 1)] : List Value).toArray s 0 0 (zz_A G)) 4 G (zz_A G) M2 11 [(0, .ref (G.2.2 11)), (1, .ref (G.2.2 1)), (2, .int (nI i))] [] := by
    intro j
    induction j with
    | zero =>
      intro i M2 hi hf hv
      refine zz_iload_n (pc := 11) E dX2_find_11 rfl ?_
      refine zz_bipush (pc := 12) (v := nI 6) E dX2_find_12 (by decide) ?_
      refine zn_icmp_ge (pc := 14) (tgt := 55) E dX2_find_14 (by decide) (by omega) (by omega) (fun h14 => ?_) (fun h14 => ?_)
      · exact zz_vret (pc := 55) E hr hlk dX2_find_55 ⟨hf, by rw [show 6 * i = 36 by omega] at hv; exact hv⟩
      · exact absurd h14 (by omega)
    | succ j ih =>
      intro i M2 hi hf hv
      refine zz_iload_n (pc := 11) E dX2_find_11 rfl ?_
      refine zz_bipush (pc := 12) (v := nI 6) E dX2_find_12 (by decide) ?_
      refine zn_icmp_ge (pc := 14) (tgt := 55) E dX2_find_14 (by decide) (by omega) (by omega) (fun h14 => ?_) (fun h14 => ?_)
      · exact absurd h14 (by omega)
      · refine zz_iconst (pc := 17) (v := nI 0) E dX2_find_17 (by decide) ?_
        refine zz_istore_n (pc := 18) (lv' := [(0, _), (1, _), (2, _), (3, _)]) E dX2_find_18 (by decide) rfl ?_
        have key2 : ∀ (j2 i2 : Nat) (M3 : zz_M), i2 + j2 = 6 → zfr [12] M M3 → znm M3 (zit S (6 * i + i2)) → zz_Z p l e (headSpec wsX2_find ({ frames := 5, cells := 0, slots := 0, locals := 116 } : Room)).room s m ([.ref (G.2.2 11), .ref (G.2.2 1)] : List Value).toArray below meth c 0 0 (MQ below (zz_Qv G (fun M1 => zfr [12] M M1 ∧ znm M1 (zit S 36))) ([.ref (G.2.2 11), .ref (G.2.2 1)] : List Value).toArray s 0 0 (zz_A G)) 4 G (zz_A G) M3 19 [(0, .ref (G.2.2 11)), (1, .ref (G.2.2 1)), (2, .int (nI i)), (3, .int (nI i2))] [] := by
          intro j2
          induction j2 with
          | zero =>
            intro i2 M3 hi2 hf3 hv3
            refine zz_iload_n (pc := 19) E dX2_find_19 rfl ?_
            refine zz_bipush (pc := 20) (v := nI 6) E dX2_find_20 (by decide) ?_
            refine zn_icmp_ge (pc := 22) (tgt := 49) E dX2_find_22 (by decide) (by omega) (by omega) (fun h22 => ?_) (fun h22 => ?_)
            · refine zn_inc (pc := 49) (lv' := [(0, _), (1, _), (2, _), (3, _)]) E dX2_find_49 rfl (by decide) rfl ?_
              refine zz_goto (pc := 52) (tgt := 11) E dX2_find_52 (by decide) ?_
              exact zz_to (ih (i + 1) M3 (by omega) hf3 (by rw [show 6 * (i + 1) = 6 * i + i2 by omega]; exact hv3)) ⟨rfl, rfl, rfl, trivial⟩
            · exact absurd h22 (by omega)
          | succ j2 ih2 =>
            intro i2 M3 hi2 hf3 hv3
            have hS3 : ztab M3 1 S := ztab_fr hS hf3 (by decide) (by decide)
            have hB3 := zit_bd hV (6 * i + i2)
            refine zz_iload_n (pc := 19) E dX2_find_19 rfl ?_
            refine zz_bipush (pc := 20) (v := nI 6) E dX2_find_20 (by decide) ?_
            refine zn_icmp_ge (pc := 22) (tgt := 49) E dX2_find_22 (by decide) (by omega) (by omega) (fun h22 => ?_) (fun h22 => ?_)
            · exact absurd h22 (by omega)
            · refine zz_aload_n (pc := 25) E dX2_find_25 rfl ?_
              refine zz_gf (pc := 26) E 11 (by decide) rfl rfl inX2_find_X2 0 (by decide) lkX2_find_9 (fun _ h => h) rfl dX2_find_26 ?_
              refine zz_iload_n (pc := 29) E dX2_find_29 rfl ?_
              refine zz_aload_n (pc := 30) E dX2_find_30 rfl ?_
              refine zz_aload_n (pc := 31) E dX2_find_31 rfl ?_
              refine zz_iload_n (pc := 32) E dX2_find_32 rfl ?_
              refine zz_aload_n (pc := 33) E dX2_find_33 rfl ?_
              refine zz_aload_n (pc := 34) E dX2_find_34 rfl ?_
              refine zz_iload_n (pc := 35) E dX2_find_35 rfl ?_
              refine zz_ciV (pc := 36) E 11 (kkX2_leastLetter l G hJ _  S _ 364 hV hS3 hv3 hB3 (by decide) i2 (by omega)) (cwV 2 hts gX2_find_X2_leastLetter rfl rfl rfl (by decide +kernel) ⟨Nat.le_of_ble_eq_true rfl, Nat.le_of_ble_eq_true rfl⟩) (by decide) rfl rfl rfl rfl (Nat.le_of_ble_eq_true rfl) dX2_find_36 (fun r36 M36 q36 => ?_)
              obtain ⟨rfl, rfl⟩ := q36
              refine zz_ciV (pc := 39) E 11 (kkX2_byLetter l G hJ _  S _ i2 (zbest S (zit S (6 * i + i2)) i2 3).1 364 hV hS3 hv3 hB3 (by decide) (by omega) (fun a ha => zbest_lt _ _ _ _ _ ha)) (cwV 3 hts gX2_find_X2_byLetter rfl rfl rfl (by decide +kernel) ⟨Nat.le_of_ble_eq_true rfl, Nat.le_of_ble_eq_true rfl⟩) (by decide) rfl rfl rfl rfl (Nat.le_of_ble_eq_true rfl) dX2_find_39 (fun r39 M39 q39 => ?_)
              obtain ⟨rfl, rfl⟩ := q39
              refine zz_iast (pc := 42) E 12 (_) (n := 6) (by decide) (fun _ => rfl) rfl (by omega) (by decide) dX2_find_42 ?_
              refine zn_inc (pc := 43) (lv' := [(0, _), (1, _), (2, _), (3, _)]) E dX2_find_43 rfl (by decide) rfl ?_
              refine zz_goto (pc := 46) (tgt := 19) E dX2_find_46 (by decide) ?_
              exact zz_to (ih2 (i2 + 1) _ (by omega) (zfr_up hf3 (by simp)) (fun t ht => by rw [zz_up_same, show 6 * i + (i2 + 1) = (6 * i + i2) + 1 by omega, zit, show (6 * i + i2) % 6 = i2 by omega]; by_cases e : t = i2; rw [e, upd_same, zvu_same, zbest_by]; rfl; rw [upd_ne _ _ e, zvu_ne _ _ e]; exact hv3 t ht)) ⟨rfl, rfl, rfl, rfl, trivial⟩
        exact zz_to (key2 6 0 M2 (by omega) hf hv) ⟨rfl, rfl, rfl, rfl, trivial⟩
  exact zz_to (key 6 0 M6 (by omega) f6 (fun s hs => w6 s hs)) ⟨rfl, rfl, rfl, trivial⟩
end
