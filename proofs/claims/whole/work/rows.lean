section
-- ===== PART A: goes FIRST, ahead of the names: the tables' words, and 'selects' of the private methods out of them =====
/-- a private method of a class that the tables say can be made, by its rows of tables_1 -/
def lw_okq (q : MethodName × Nat) : Prop := (q.1.cls ≠ "java/lang/invoke/MethodHandle" ∧ q.1.cls ≠ "java/lang/invoke/VarHandle") ∧ Cond.instantiable q.1.cls q.2 ∈ tables_1 ∧ Cond.privateMethod q.1 ∈ tables_1 ∧ Cond.instanceMethod q.1 ∈ tables_1
theorem lw_p0 : lw_okq (⟨"RightDesk$ConditionBook", "setMember", "(IIZ)Z"⟩, 3) := ⟨⟨by decide +kernel, by decide +kernel⟩, List.mem_of_getElem? (i := 18) (by decide +kernel), List.mem_of_getElem? (i := 68) (by decide +kernel), List.mem_of_getElem? (i := 69) (by decide +kernel)⟩
theorem lw_p1 : lw_okq (⟨"RightDesk$ConditionBook", "isMember", "(II)Z"⟩, 3) := ⟨⟨by decide +kernel, by decide +kernel⟩, List.mem_of_getElem? (i := 18) (by decide +kernel), List.mem_of_getElem? (i := 72) (by decide +kernel), List.mem_of_getElem? (i := 73) (by decide +kernel)⟩
theorem lw_p2 : lw_okq (⟨"RightDesk$ConditionBook", "workOutAgain", "(I)V"⟩, 3) := ⟨⟨by decide +kernel, by decide +kernel⟩, List.mem_of_getElem? (i := 18) (by decide +kernel), List.mem_of_getElem? (i := 77) (by decide +kernel), List.mem_of_getElem? (i := 78) (by decide +kernel)⟩
theorem lw_p3 : lw_okq (⟨"RightDesk$ConditionBook", "at", "(I)LRightDesk$Condition;"⟩, 3) := ⟨⟨by decide +kernel, by decide +kernel⟩, List.mem_of_getElem? (i := 18) (by decide +kernel), List.mem_of_getElem? (i := 81) (by decide +kernel), List.mem_of_getElem? (i := 82) (by decide +kernel)⟩
theorem lw_p4 : lw_okq (⟨"RightDesk$ConditionBook", "workOut", "(LRightDesk$Condition;I)J"⟩, 3) := ⟨⟨by decide +kernel, by decide +kernel⟩, List.mem_of_getElem? (i := 18) (by decide +kernel), List.mem_of_getElem? (i := 85) (by decide +kernel), List.mem_of_getElem? (i := 86) (by decide +kernel)⟩
theorem lw_p5 : lw_okq (⟨"RightDesk$ConditionBook", "putTogether", "(LRightDesk$Condition;I)J"⟩, 3) := ⟨⟨by decide +kernel, by decide +kernel⟩, List.mem_of_getElem? (i := 18) (by decide +kernel), List.mem_of_getElem? (i := 99) (by decide +kernel), List.mem_of_getElem? (i := 100) (by decide +kernel)⟩
theorem lw_p6 : lw_okq (⟨"RightDesk$ConditionBook", "wordOf", "(II)J"⟩, 3) := ⟨⟨by decide +kernel, by decide +kernel⟩, List.mem_of_getElem? (i := 18) (by decide +kernel), List.mem_of_getElem? (i := 103) (by decide +kernel), List.mem_of_getElem? (i := 104) (by decide +kernel)⟩
theorem lw_p7 : lw_okq (⟨"RightDesk$Condition", "word", "(I)J"⟩, 5) := ⟨⟨by decide +kernel, by decide +kernel⟩, List.mem_of_getElem? (i := 109) (by decide +kernel), List.mem_of_getElem? (i := 107) (by decide +kernel), List.mem_of_getElem? (i := 108) (by decide +kernel)⟩
theorem lw_p8 : lw_okq (⟨"RightDesk$Condition", "setWord", "(IJ)V"⟩, 5) := ⟨⟨by decide +kernel, by decide +kernel⟩, List.mem_of_getElem? (i := 109) (by decide +kernel), List.mem_of_getElem? (i := 116) (by decide +kernel), List.mem_of_getElem? (i := 117) (by decide +kernel)⟩
theorem lw_p9 : lw_okq (⟨"RightDesk$ConditionBook", "canBe", "(IIII)Z"⟩, 3) := ⟨⟨by decide +kernel, by decide +kernel⟩, List.mem_of_getElem? (i := 18) (by decide +kernel), List.mem_of_getElem? (i := 124) (by decide +kernel), List.mem_of_getElem? (i := 125) (by decide +kernel)⟩
theorem lw_p10 : lw_okq (⟨"RightDesk$ConditionBook", "add", "(IIII)I"⟩, 3) := ⟨⟨by decide +kernel, by decide +kernel⟩, List.mem_of_getElem? (i := 18) (by decide +kernel), List.mem_of_getElem? (i := 128) (by decide +kernel), List.mem_of_getElem? (i := 129) (by decide +kernel)⟩
theorem lw_p11 : lw_okq (⟨"RightDesk$RuleBook", "add", "(IZLRightDesk$Condition;)I"⟩, 2) := ⟨⟨by decide +kernel, by decide +kernel⟩, List.mem_of_getElem? (i := 38) (by decide +kernel), List.mem_of_getElem? (i := 162) (by decide +kernel), List.mem_of_getElem? (i := 163) (by decide +kernel)⟩
theorem lw_p12 : lw_okq (⟨"RightDesk$RuleBook", "placeFor", "(LRightDesk$Rule;)I"⟩, 2) := ⟨⟨by decide +kernel, by decide +kernel⟩, List.mem_of_getElem? (i := 38) (by decide +kernel), List.mem_of_getElem? (i := 189) (by decide +kernel), List.mem_of_getElem? (i := 190) (by decide +kernel)⟩
theorem lw_p13 : lw_okq (⟨"RightDesk$RuleBook", "at", "(I)LRightDesk$Rule;"⟩, 2) := ⟨⟨by decide +kernel, by decide +kernel⟩, List.mem_of_getElem? (i := 38) (by decide +kernel), List.mem_of_getElem? (i := 193) (by decide +kernel), List.mem_of_getElem? (i := 194) (by decide +kernel)⟩
theorem lw_p14 : lw_okq (⟨"RightDesk$Rule", "goesBefore", "(LRightDesk$Rule;)Z"⟩, 4) := ⟨⟨by decide +kernel, by decide +kernel⟩, List.mem_of_getElem? (i := 166) (by decide +kernel), List.mem_of_getElem? (i := 197) (by decide +kernel), List.mem_of_getElem? (i := 198) (by decide +kernel)⟩
theorem lw_p15 : lw_okq (⟨"RightDesk$RuleBook", "placeOf", "(I)I"⟩, 2) := ⟨⟨by decide +kernel, by decide +kernel⟩, List.mem_of_getElem? (i := 38) (by decide +kernel), List.mem_of_getElem? (i := 205) (by decide +kernel), List.mem_of_getElem? (i := 206) (by decide +kernel)⟩
def lw_privs_1 : List (MethodName × Nat) := [(⟨"RightDesk$ConditionBook", "setMember", "(IIZ)Z"⟩, 3), (⟨"RightDesk$ConditionBook", "isMember", "(II)Z"⟩, 3), (⟨"RightDesk$ConditionBook", "workOutAgain", "(I)V"⟩, 3), (⟨"RightDesk$ConditionBook", "at", "(I)LRightDesk$Condition;"⟩, 3), (⟨"RightDesk$ConditionBook", "workOut", "(LRightDesk$Condition;I)J"⟩, 3), (⟨"RightDesk$ConditionBook", "putTogether", "(LRightDesk$Condition;I)J"⟩, 3), (⟨"RightDesk$ConditionBook", "wordOf", "(II)J"⟩, 3), (⟨"RightDesk$Condition", "word", "(I)J"⟩, 5), (⟨"RightDesk$Condition", "setWord", "(IJ)V"⟩, 5), (⟨"RightDesk$ConditionBook", "canBe", "(IIII)Z"⟩, 3), (⟨"RightDesk$ConditionBook", "add", "(IIII)I"⟩, 3), (⟨"RightDesk$RuleBook", "add", "(IZLRightDesk$Condition;)I"⟩, 2), (⟨"RightDesk$RuleBook", "placeFor", "(LRightDesk$Rule;)I"⟩, 2), (⟨"RightDesk$RuleBook", "at", "(I)LRightDesk$Rule;"⟩, 2), (⟨"RightDesk$Rule", "goesBefore", "(LRightDesk$Rule;)Z"⟩, 4), (⟨"RightDesk$RuleBook", "placeOf", "(I)I"⟩, 2)]
theorem lw_r1 : ∀ q ∈ lw_privs_1, lw_okq q := List.forall_mem_cons.mpr ⟨lw_p0, List.forall_mem_cons.mpr ⟨lw_p1, List.forall_mem_cons.mpr ⟨lw_p2, List.forall_mem_cons.mpr ⟨lw_p3, List.forall_mem_cons.mpr ⟨lw_p4, List.forall_mem_cons.mpr ⟨lw_p5, List.forall_mem_cons.mpr ⟨lw_p6, List.forall_mem_cons.mpr ⟨lw_p7, List.forall_mem_cons.mpr ⟨lw_p8, List.forall_mem_cons.mpr ⟨lw_p9, List.forall_mem_cons.mpr ⟨lw_p10, List.forall_mem_cons.mpr ⟨lw_p11, List.forall_mem_cons.mpr ⟨lw_p12, List.forall_mem_cons.mpr ⟨lw_p13, List.forall_mem_cons.mpr ⟨lw_p14, List.forall_mem_cons.mpr ⟨lw_p15, fun _ h => absurd h List.not_mem_nil⟩⟩⟩⟩⟩⟩⟩⟩⟩⟩⟩⟩⟩⟩⟩⟩
theorem lw_p16 : lw_okq (⟨"RightDesk$RuleBook", "remove", "(II)I"⟩, 2) := ⟨⟨by decide +kernel, by decide +kernel⟩, List.mem_of_getElem? (i := 38) (by decide +kernel), List.mem_of_getElem? (i := 209) (by decide +kernel), List.mem_of_getElem? (i := 210) (by decide +kernel)⟩
theorem lw_p17 : lw_okq (⟨"RightDesk$RuleBook", "deciderOf", "(I)LRightDesk$Rule;"⟩, 2) := ⟨⟨by decide +kernel, by decide +kernel⟩, List.mem_of_getElem? (i := 38) (by decide +kernel), List.mem_of_getElem? (i := 217) (by decide +kernel), List.mem_of_getElem? (i := 218) (by decide +kernel)⟩
theorem lw_p18 : lw_okq (⟨"RightDesk$Rule", "word", "(I)J"⟩, 4) := ⟨⟨by decide +kernel, by decide +kernel⟩, List.mem_of_getElem? (i := 166) (by decide +kernel), List.mem_of_getElem? (i := 221) (by decide +kernel), List.mem_of_getElem? (i := 222) (by decide +kernel)⟩
theorem lw_p19 : lw_okq (⟨"RightDesk$RuleBook", "decidedAt", "(II)J"⟩, 2) := ⟨⟨by decide +kernel, by decide +kernel⟩, List.mem_of_getElem? (i := 38) (by decide +kernel), List.mem_of_getElem? (i := 253) (by decide +kernel), List.mem_of_getElem? (i := 254) (by decide +kernel)⟩
theorem lw_p20 : lw_okq (⟨"RightDesk$RuleBook", "wordAt", "(II)J"⟩, 2) := ⟨⟨by decide +kernel, by decide +kernel⟩, List.mem_of_getElem? (i := 38) (by decide +kernel), List.mem_of_getElem? (i := 257) (by decide +kernel), List.mem_of_getElem? (i := 258) (by decide +kernel)⟩
theorem lw_p21 : lw_okq (⟨"RightDesk", "allowedIn", "(I)J"⟩, 2) := ⟨⟨by decide +kernel, by decide +kernel⟩, List.mem_of_getElem? (i := 10) (by decide +kernel), List.mem_of_getElem? (i := 267) (by decide +kernel), List.mem_of_getElem? (i := 268) (by decide +kernel)⟩
theorem lw_p22 : lw_okq (⟨"RightDesk$RuleBook", "allowedFrom", "(IJI)J"⟩, 2) := ⟨⟨by decide +kernel, by decide +kernel⟩, List.mem_of_getElem? (i := 38) (by decide +kernel), List.mem_of_getElem? (i := 271) (by decide +kernel), List.mem_of_getElem? (i := 272) (by decide +kernel)⟩
theorem lw_p23 : lw_okq (⟨"RightDesk$RuleBook", "turnedAt", "(II)J"⟩, 2) := ⟨⟨by decide +kernel, by decide +kernel⟩, List.mem_of_getElem? (i := 38) (by decide +kernel), List.mem_of_getElem? (i := 279) (by decide +kernel), List.mem_of_getElem? (i := 280) (by decide +kernel)⟩
theorem lw_p24 : lw_okq (⟨"RightDesk$RuleBook", "idleRank", "(ZJI)I"⟩, 2) := ⟨⟨by decide +kernel, by decide +kernel⟩, List.mem_of_getElem? (i := 38) (by decide +kernel), List.mem_of_getElem? (i := 289) (by decide +kernel), List.mem_of_getElem? (i := 290) (by decide +kernel)⟩
theorem lw_p25 : lw_okq (⟨"RightDesk$Rule", "rankBehind", "(Z)I"⟩, 4) := ⟨⟨by decide +kernel, by decide +kernel⟩, List.mem_of_getElem? (i := 166) (by decide +kernel), List.mem_of_getElem? (i := 293) (by decide +kernel), List.mem_of_getElem? (i := 294) (by decide +kernel)⟩
theorem lw_p26 : lw_okq (⟨"RightDeskModel", "make", "(I)V"⟩, 14) := ⟨⟨by decide +kernel, by decide +kernel⟩, List.mem_of_getElem? (i := 316) (by decide +kernel), List.mem_of_getElem? (i := 373) (by decide +kernel), List.mem_of_getElem? (i := 374) (by decide +kernel)⟩
theorem lw_p27 : lw_okq (⟨"RightDeskModel", "isSo", "(II)Z"⟩, 14) := ⟨⟨by decide +kernel, by decide +kernel⟩, List.mem_of_getElem? (i := 316) (by decide +kernel), List.mem_of_getElem? (i := 377) (by decide +kernel), List.mem_of_getElem? (i := 378) (by decide +kernel)⟩
theorem lw_p28 : lw_okq (⟨"RightDeskModel", "holds", "(II)Z"⟩, 14) := ⟨⟨by decide +kernel, by decide +kernel⟩, List.mem_of_getElem? (i := 316) (by decide +kernel), List.mem_of_getElem? (i := 393) (by decide +kernel), List.mem_of_getElem? (i := 394) (by decide +kernel)⟩
theorem lw_p29 : lw_okq (⟨"RightDeskModel", "isGood", "(IIII)Z"⟩, 14) := ⟨⟨by decide +kernel, by decide +kernel⟩, List.mem_of_getElem? (i := 316) (by decide +kernel), List.mem_of_getElem? (i := 401) (by decide +kernel), List.mem_of_getElem? (i := 402) (by decide +kernel)⟩
theorem lw_p30 : lw_okq (⟨"RightDeskModel", "isCondition", "(I)Z"⟩, 14) := ⟨⟨by decide +kernel, by decide +kernel⟩, List.mem_of_getElem? (i := 316) (by decide +kernel), List.mem_of_getElem? (i := 405) (by decide +kernel), List.mem_of_getElem? (i := 406) (by decide +kernel)⟩
theorem lw_p31 : lw_okq (⟨"RightDeskModel", "isRule", "(I)Z"⟩, 14) := ⟨⟨by decide +kernel, by decide +kernel⟩, List.mem_of_getElem? (i := 316) (by decide +kernel), List.mem_of_getElem? (i := 417) (by decide +kernel), List.mem_of_getElem? (i := 418) (by decide +kernel)⟩
def lw_privs_2 : List (MethodName × Nat) := [(⟨"RightDesk$RuleBook", "remove", "(II)I"⟩, 2), (⟨"RightDesk$RuleBook", "deciderOf", "(I)LRightDesk$Rule;"⟩, 2), (⟨"RightDesk$Rule", "word", "(I)J"⟩, 4), (⟨"RightDesk$RuleBook", "decidedAt", "(II)J"⟩, 2), (⟨"RightDesk$RuleBook", "wordAt", "(II)J"⟩, 2), (⟨"RightDesk", "allowedIn", "(I)J"⟩, 2), (⟨"RightDesk$RuleBook", "allowedFrom", "(IJI)J"⟩, 2), (⟨"RightDesk$RuleBook", "turnedAt", "(II)J"⟩, 2), (⟨"RightDesk$RuleBook", "idleRank", "(ZJI)I"⟩, 2), (⟨"RightDesk$Rule", "rankBehind", "(Z)I"⟩, 4), (⟨"RightDeskModel", "make", "(I)V"⟩, 14), (⟨"RightDeskModel", "isSo", "(II)Z"⟩, 14), (⟨"RightDeskModel", "holds", "(II)Z"⟩, 14), (⟨"RightDeskModel", "isGood", "(IIII)Z"⟩, 14), (⟨"RightDeskModel", "isCondition", "(I)Z"⟩, 14), (⟨"RightDeskModel", "isRule", "(I)Z"⟩, 14)]
theorem lw_r2 : ∀ q ∈ lw_privs_2, lw_okq q := List.forall_mem_cons.mpr ⟨lw_p16, List.forall_mem_cons.mpr ⟨lw_p17, List.forall_mem_cons.mpr ⟨lw_p18, List.forall_mem_cons.mpr ⟨lw_p19, List.forall_mem_cons.mpr ⟨lw_p20, List.forall_mem_cons.mpr ⟨lw_p21, List.forall_mem_cons.mpr ⟨lw_p22, List.forall_mem_cons.mpr ⟨lw_p23, List.forall_mem_cons.mpr ⟨lw_p24, List.forall_mem_cons.mpr ⟨lw_p25, List.forall_mem_cons.mpr ⟨lw_p26, List.forall_mem_cons.mpr ⟨lw_p27, List.forall_mem_cons.mpr ⟨lw_p28, List.forall_mem_cons.mpr ⟨lw_p29, List.forall_mem_cons.mpr ⟨lw_p30, List.forall_mem_cons.mpr ⟨lw_p31, fun _ h => absurd h List.not_mem_nil⟩⟩⟩⟩⟩⟩⟩⟩⟩⟩⟩⟩⟩⟩⟩⟩
theorem lw_p32 : lw_okq (⟨"RightDeskModel", "know", "()V"⟩, 14) := ⟨⟨by decide +kernel, by decide +kernel⟩, List.mem_of_getElem? (i := 316) (by decide +kernel), List.mem_of_getElem? (i := 425) (by decide +kernel), List.mem_of_getElem? (i := 426) (by decide +kernel)⟩
theorem lw_p33 : lw_okq (⟨"RightDeskModel", "decide", "(II)I"⟩, 14) := ⟨⟨by decide +kernel, by decide +kernel⟩, List.mem_of_getElem? (i := 316) (by decide +kernel), List.mem_of_getElem? (i := 429) (by decide +kernel), List.mem_of_getElem? (i := 430) (by decide +kernel)⟩
theorem lw_p34 : lw_okq (⟨"RightDeskModel", "firstRank", "(II)I"⟩, 14) := ⟨⟨by decide +kernel, by decide +kernel⟩, List.mem_of_getElem? (i := 316) (by decide +kernel), List.mem_of_getElem? (i := 433) (by decide +kernel), List.mem_of_getElem? (i := 434) (by decide +kernel)⟩
theorem lw_p35 : lw_okq (⟨"RightDeskModel", "isAllowed", "(I)Z"⟩, 14) := ⟨⟨by decide +kernel, by decide +kernel⟩, List.mem_of_getElem? (i := 316) (by decide +kernel), List.mem_of_getElem? (i := 437) (by decide +kernel), List.mem_of_getElem? (i := 438) (by decide +kernel)⟩
theorem lw_p36 : lw_okq (⟨"RightDeskModel", "wouldDecide", "(IZI)Z"⟩, 14) := ⟨⟨by decide +kernel, by decide +kernel⟩, List.mem_of_getElem? (i := 316) (by decide +kernel), List.mem_of_getElem? (i := 469) (by decide +kernel), List.mem_of_getElem? (i := 470) (by decide +kernel)⟩
def lw_privs_3 : List (MethodName × Nat) := [(⟨"RightDeskModel", "know", "()V"⟩, 14), (⟨"RightDeskModel", "decide", "(II)I"⟩, 14), (⟨"RightDeskModel", "firstRank", "(II)I"⟩, 14), (⟨"RightDeskModel", "isAllowed", "(I)Z"⟩, 14), (⟨"RightDeskModel", "wouldDecide", "(IZI)Z"⟩, 14)]
theorem lw_r3 : ∀ q ∈ lw_privs_3, lw_okq q := List.forall_mem_cons.mpr ⟨lw_p32, List.forall_mem_cons.mpr ⟨lw_p33, List.forall_mem_cons.mpr ⟨lw_p34, List.forall_mem_cons.mpr ⟨lw_p35, List.forall_mem_cons.mpr ⟨lw_p36, fun _ h => absurd h List.not_mem_nil⟩⟩⟩⟩⟩
def lw_privs : List (MethodName × Nat) := lw_privs_1 ++ (lw_privs_2 ++ (lw_privs_3))
def lw_tbl : List Cond := k2_sels lw_privs ++ tables_1
theorem lw_privs_ok : ∀ q ∈ lw_privs, lw_okq q := by
  show ∀ q ∈ lw_privs_1 ++ (lw_privs_2 ++ (lw_privs_3)), lw_okq q
  exact List.forall_mem_append.mpr ⟨lw_r1, List.forall_mem_append.mpr ⟨lw_r2, lw_r3⟩⟩
def R_De : String := "RightDesk"
def R_Co : String := "RightDesk$Condition"
def R_Cb : String := "RightDesk$ConditionBook"
def R_Ru : String := "RightDesk$Rule"
def R_Rb : String := "RightDesk$RuleBook"
def R_Mo : String := "RightDeskModel"
def R_La : String := "RightDeskLaw"
def R_Lo : String := "java/lang/Long"
def T_Co : u_T := fun k => match k with
  | 0 => ("RightDesk$Condition", "kind", "I", true)
  | 1 => ("RightDesk$Condition", "a", "I", true)
  | 2 => ("RightDesk$Condition", "b", "I", true)
  | 3 => ("RightDesk$Condition", "c", "I", true)
  | _ => ("RightDesk$Condition", "words", "[J", true)
def ty_Co : Nat → FieldType := fun k => match k with
  | 0 => .int
  | 1 => .int
  | 2 => .int
  | 3 => .int
  | _ => .array .long
theorem nm_Co : ∀ a, a < 5 → ∀ b, b < 5 → a ≠ b → (T_Co a).2.1 ≠ (T_Co b).2.1 := by decide +kernel
theorem tyok_Co : ∀ k, k < 5 → parseFieldDescriptor (T_Co k).2.2.1 = some (ty_Co k) := by decide +kernel
def T_Cb : u_T := fun k => match k with
  | 0 => ("RightDesk$ConditionBook", "made", "[LRightDesk$Condition;", true)
  | 1 => ("RightDesk$ConditionBook", "members", "[Z", true)
  | _ => ("RightDesk$ConditionBook", "count", "I", false)
def ty_Cb : Nat → FieldType := fun k => match k with
  | 0 => .array (.object "RightDesk$Condition")
  | 1 => .array .boolean
  | _ => .int
theorem nm_Cb : ∀ a, a < 3 → ∀ b, b < 3 → a ≠ b → (T_Cb a).2.1 ≠ (T_Cb b).2.1 := by decide +kernel
theorem tyok_Cb : ∀ k, k < 3 → parseFieldDescriptor (T_Cb k).2.2.1 = some (ty_Cb k) := by decide +kernel
def T_Ru : u_T := fun k => match k with
  | 0 => ("RightDesk$Rule", "rank", "I", true)
  | 1 => ("RightDesk$Rule", "denies", "Z", true)
  | 2 => ("RightDesk$Rule", "condition", "LRightDesk$Condition;", true)
  | _ => ("RightDesk$Rule", "number", "I", false)
def ty_Ru : Nat → FieldType := fun k => match k with
  | 0 => .int
  | 1 => .boolean
  | 2 => .object "RightDesk$Condition"
  | _ => .int
theorem nm_Ru : ∀ a, a < 4 → ∀ b, b < 4 → a ≠ b → (T_Ru a).2.1 ≠ (T_Ru b).2.1 := by decide +kernel
theorem tyok_Ru : ∀ k, k < 4 → parseFieldDescriptor (T_Ru k).2.2.1 = some (ty_Ru k) := by decide +kernel
def T_Rb : u_T := fun k => match k with
  | 0 => ("RightDesk$RuleBook", "row", "[LRightDesk$Rule;", true)
  | _ => ("RightDesk$RuleBook", "count", "I", false)
def ty_Rb : Nat → FieldType := fun k => match k with
  | 0 => .array (.object "RightDesk$Rule")
  | _ => .int
theorem nm_Rb : ∀ a, a < 2 → ∀ b, b < 2 → a ≠ b → (T_Rb a).2.1 ≠ (T_Rb b).2.1 := by decide +kernel
theorem tyok_Rb : ∀ k, k < 2 → parseFieldDescriptor (T_Rb k).2.2.1 = some (ty_Rb k) := by decide +kernel
def T_De : u_T := fun k => match k with
  | 0 => ("RightDesk", "conditionBook", "LRightDesk$ConditionBook;", true)
  | _ => ("RightDesk", "ruleBook", "LRightDesk$RuleBook;", true)
def ty_De : Nat → FieldType := fun k => match k with
  | 0 => .object "RightDesk$ConditionBook"
  | _ => .object "RightDesk$RuleBook"
theorem nm_De : ∀ a, a < 2 → ∀ b, b < 2 → a ≠ b → (T_De a).2.1 ≠ (T_De b).2.1 := by decide +kernel
theorem tyok_De : ∀ k, k < 2 → parseFieldDescriptor (T_De k).2.2.1 = some (ty_De k) := by decide +kernel
def T_Mo : u_T := fun k => match k with
  | 0 => ("RightDeskModel", "code", "I", false)
  | 1 => ("RightDeskModel", "groups", "[I", true)
  | 2 => ("RightDeskModel", "conditions", "I", false)
  | 3 => ("RightDeskModel", "kind", "[I", true)
  | 4 => ("RightDeskModel", "first", "[I", true)
  | 5 => ("RightDeskModel", "second", "[I", true)
  | 6 => ("RightDeskModel", "third", "[I", true)
  | 7 => ("RightDeskModel", "bits", "[I", true)
  | 8 => ("RightDeskModel", "rules", "I", false)
  | 9 => ("RightDeskModel", "rank", "[I", true)
  | 10 => ("RightDeskModel", "denies", "[Z", true)
  | 11 => ("RightDeskModel", "condition", "[I", true)
  | 12 => ("RightDeskModel", "decider", "[I", true)
  | _ => ("RightDeskModel", "known", "Z", false)
def ty_Mo : Nat → FieldType := fun k => match k with
  | 0 => .int
  | 1 => .array .int
  | 2 => .int
  | 3 => .array .int
  | 4 => .array .int
  | 5 => .array .int
  | 6 => .array .int
  | 7 => .array .int
  | 8 => .int
  | 9 => .array .int
  | 10 => .array .boolean
  | 11 => .array .int
  | 12 => .array .int
  | _ => .boolean
theorem nm_Mo : ∀ a, a < 14 → ∀ b, b < 14 → a ≠ b → (T_Mo a).2.1 ≠ (T_Mo b).2.1 := by decide +kernel
theorem tyok_Mo : ∀ k, k < 14 → parseFieldDescriptor (T_Mo k).2.2.1 = some (ty_Mo k) := by decide +kernel
abbrev vwCl : List vw_C := [(R_Co, T_Co, 5), (R_Cb, T_Cb, 3), (R_Ru, T_Ru, 4), (R_Rb, T_Rb, 2), (R_De, T_De, 2), (R_Mo, T_Mo, 14)]
abbrev b_De_init : ByteArray := prog_1_method_1_code
def y_De_init : MethodName := ⟨R_De, "<init>", "()V"⟩
abbrev b_De_member : ByteArray := prog_1_method_2_code
def y_De_member : MethodName := ⟨R_De, "member", "(IIZ)I"⟩
abbrev b_De_condition : ByteArray := prog_1_method_3_code
def y_De_condition : MethodName := ⟨R_De, "condition", "(IIII)I"⟩
abbrev b_De_rule : ByteArray := prog_1_method_4_code
def y_De_rule : MethodName := ⟨R_De, "rule", "(IZI)I"⟩
abbrev b_De_drop : ByteArray := prog_1_method_5_code
def y_De_drop : MethodName := ⟨R_De, "drop", "(I)I"⟩
abbrev b_De_may : ByteArray := prog_1_method_6_code
def y_De_may : MethodName := ⟨R_De, "may", "(IIIIII)I"⟩
abbrev b_De_asks : ByteArray := prog_1_method_7_code
def y_De_asks : MethodName := ⟨R_De, "asks", "(I)I"⟩
abbrev b_De_ask : ByteArray := prog_1_method_8_code
def y_De_ask : MethodName := ⟨R_De, "ask", "(II)I"⟩
abbrev b_De_within : ByteArray := prog_1_method_9_code
def y_De_within : MethodName := ⟨R_De, "within", "(II)I"⟩
abbrev b_De_decides : ByteArray := prog_1_method_10_code
def y_De_decides : MethodName := ⟨R_De, "decides", "(I)I"⟩
abbrev b_De_sees : ByteArray := prog_1_method_11_code
def y_De_sees : MethodName := ⟨R_De, "sees", "(II)I"⟩
abbrev b_De_matters : ByteArray := prog_1_method_12_code
def y_De_matters : MethodName := ⟨R_De, "matters", "(I)I"⟩
abbrev b_De_idle : ByteArray := prog_1_method_13_code
def y_De_idle : MethodName := ⟨R_De, "idle", "(ZI)I"⟩
abbrev b_De_apart : ByteArray := prog_1_method_14_code
def y_De_apart : MethodName := ⟨R_De, "apart", "(II)I"⟩
abbrev b_De_allowed : ByteArray := prog_1_method_15_code
def y_De_allowed : MethodName := ⟨R_De, "allowed", "()I"⟩
abbrev b_De_conditions : ByteArray := prog_1_method_16_code
def y_De_conditions : MethodName := ⟨R_De, "conditions", "()I"⟩
abbrev b_De_rules : ByteArray := prog_1_method_17_code
def y_De_rules : MethodName := ⟨R_De, "rules", "()I"⟩
abbrev b_De_allowedIn : ByteArray := prog_1_method_18_code
def y_De_allowedIn : MethodName := ⟨R_De, "allowedIn", "(I)J"⟩
abbrev b_De_isBelow : ByteArray := prog_1_method_19_code
def y_De_isBelow : MethodName := ⟨R_De, "isBelow", "(II)Z"⟩
abbrev b_De_versionsFromTo : ByteArray := prog_1_method_20_code
def y_De_versionsFromTo : MethodName := ⟨R_De, "versionsFromTo", "(II)J"⟩
abbrev b_De_bitPlace : ByteArray := prog_1_method_21_code
def y_De_bitPlace : MethodName := ⟨R_De, "bitPlace", "(JI)I"⟩
abbrev b_Co_init : ByteArray := prog_2_method_1_code
def y_Co_init : MethodName := ⟨R_Co, "<init>", "(IIII)V"⟩
abbrev b_Co_word : ByteArray := prog_2_method_2_code
def y_Co_word : MethodName := ⟨R_Co, "word", "(I)J"⟩
abbrev b_Co_setWord : ByteArray := prog_2_method_3_code
def y_Co_setWord : MethodName := ⟨R_Co, "setWord", "(IJ)V"⟩
abbrev b_Cb_init : ByteArray := prog_3_method_1_code
def y_Cb_init : MethodName := ⟨R_Cb, "<init>", "()V"⟩
abbrev b_Cb_at : ByteArray := prog_3_method_2_code
def y_Cb_at : MethodName := ⟨R_Cb, "at", "(I)LRightDesk$Condition;"⟩
abbrev b_Cb_canBe : ByteArray := prog_3_method_3_code
def y_Cb_canBe : MethodName := ⟨R_Cb, "canBe", "(IIII)Z"⟩
abbrev b_Cb_add : ByteArray := prog_3_method_4_code
def y_Cb_add : MethodName := ⟨R_Cb, "add", "(IIII)I"⟩
abbrev b_Cb_setMember : ByteArray := prog_3_method_5_code
def y_Cb_setMember : MethodName := ⟨R_Cb, "setMember", "(IIZ)Z"⟩
abbrev b_Cb_isMember : ByteArray := prog_3_method_6_code
def y_Cb_isMember : MethodName := ⟨R_Cb, "isMember", "(II)Z"⟩
abbrev b_Cb_workOutAgain : ByteArray := prog_3_method_7_code
def y_Cb_workOutAgain : MethodName := ⟨R_Cb, "workOutAgain", "(I)V"⟩
abbrev b_Cb_workOut : ByteArray := prog_3_method_8_code
def y_Cb_workOut : MethodName := ⟨R_Cb, "workOut", "(LRightDesk$Condition;I)J"⟩
abbrev b_Cb_predicateIn : ByteArray := prog_3_method_9_code
def y_Cb_predicateIn : MethodName := ⟨R_Cb, "predicateIn", "(II)J"⟩
abbrev b_Cb_putTogether : ByteArray := prog_3_method_10_code
def y_Cb_putTogether : MethodName := ⟨R_Cb, "putTogether", "(LRightDesk$Condition;I)J"⟩
abbrev b_Cb_twoOfThree : ByteArray := prog_3_method_11_code
def y_Cb_twoOfThree : MethodName := ⟨R_Cb, "twoOfThree", "(JJJ)J"⟩
abbrev b_Cb_wordOf : ByteArray := prog_3_method_12_code
def y_Cb_wordOf : MethodName := ⟨R_Cb, "wordOf", "(II)J"⟩
abbrev b_Ru_init : ByteArray := prog_4_method_1_code
def y_Ru_init : MethodName := ⟨R_Ru, "<init>", "(IIZLRightDesk$Condition;)V"⟩
abbrev b_Ru_word : ByteArray := prog_4_method_2_code
def y_Ru_word : MethodName := ⟨R_Ru, "word", "(I)J"⟩
abbrev b_Ru_goesBefore : ByteArray := prog_4_method_3_code
def y_Ru_goesBefore : MethodName := ⟨R_Ru, "goesBefore", "(LRightDesk$Rule;)Z"⟩
abbrev b_Ru_rankBehind : ByteArray := prog_4_method_4_code
def y_Ru_rankBehind : MethodName := ⟨R_Ru, "rankBehind", "(Z)I"⟩
abbrev b_Rb_init : ByteArray := prog_5_method_1_code
def y_Rb_init : MethodName := ⟨R_Rb, "<init>", "()V"⟩
abbrev b_Rb_at : ByteArray := prog_5_method_2_code
def y_Rb_at : MethodName := ⟨R_Rb, "at", "(I)LRightDesk$Rule;"⟩
abbrev b_Rb_placeOf : ByteArray := prog_5_method_3_code
def y_Rb_placeOf : MethodName := ⟨R_Rb, "placeOf", "(I)I"⟩
abbrev b_Rb_add : ByteArray := prog_5_method_4_code
def y_Rb_add : MethodName := ⟨R_Rb, "add", "(IZLRightDesk$Condition;)I"⟩
abbrev b_Rb_placeFor : ByteArray := prog_5_method_5_code
def y_Rb_placeFor : MethodName := ⟨R_Rb, "placeFor", "(LRightDesk$Rule;)I"⟩
abbrev b_Rb_remove : ByteArray := prog_5_method_6_code
def y_Rb_remove : MethodName := ⟨R_Rb, "remove", "(II)I"⟩
abbrev b_Rb_deciderOf : ByteArray := prog_5_method_7_code
def y_Rb_deciderOf : MethodName := ⟨R_Rb, "deciderOf", "(I)LRightDesk$Rule;"⟩
abbrev b_Rb_allowedFrom : ByteArray := prog_5_method_8_code
def y_Rb_allowedFrom : MethodName := ⟨R_Rb, "allowedFrom", "(IJI)J"⟩
abbrev b_Rb_decidedAt : ByteArray := prog_5_method_9_code
def y_Rb_decidedAt : MethodName := ⟨R_Rb, "decidedAt", "(II)J"⟩
abbrev b_Rb_wordAt : ByteArray := prog_5_method_10_code
def y_Rb_wordAt : MethodName := ⟨R_Rb, "wordAt", "(II)J"⟩
abbrev b_Rb_turnedAt : ByteArray := prog_5_method_11_code
def y_Rb_turnedAt : MethodName := ⟨R_Rb, "turnedAt", "(II)J"⟩
abbrev b_Rb_idleRank : ByteArray := prog_5_method_12_code
def y_Rb_idleRank : MethodName := ⟨R_Rb, "idleRank", "(ZJI)I"⟩
abbrev b_Mo_init : ByteArray := prog_7_method_1_code
def y_Mo_init : MethodName := ⟨R_Mo, "<init>", "()V"⟩
abbrev b_Mo_isIn : ByteArray := prog_7_method_3_code
def y_Mo_isIn : MethodName := ⟨R_Mo, "isIn", "(III)Z"⟩
abbrev b_Mo_isCondition : ByteArray := prog_7_method_4_code
def y_Mo_isCondition : MethodName := ⟨R_Mo, "isCondition", "(I)Z"⟩
abbrev b_Mo_isRule : ByteArray := prog_7_method_5_code
def y_Mo_isRule : MethodName := ⟨R_Mo, "isRule", "(I)Z"⟩
abbrev b_Mo_personOf : ByteArray := prog_7_method_6_code
def y_Mo_personOf : MethodName := ⟨R_Mo, "personOf", "(I)I"⟩
abbrev b_Mo_graphOf : ByteArray := prog_7_method_7_code
def y_Mo_graphOf : MethodName := ⟨R_Mo, "graphOf", "(I)I"⟩
abbrev b_Mo_predicateOf : ByteArray := prog_7_method_8_code
def y_Mo_predicateOf : MethodName := ⟨R_Mo, "predicateOf", "(I)I"⟩
abbrev b_Mo_classOf : ByteArray := prog_7_method_9_code
def y_Mo_classOf : MethodName := ⟨R_Mo, "classOf", "(I)I"⟩
abbrev b_Mo_holds : ByteArray := prog_7_method_10_code
def y_Mo_holds : MethodName := ⟨R_Mo, "holds", "(II)Z"⟩
abbrev b_Mo_isSo : ByteArray := prog_7_method_11_code
def y_Mo_isSo : MethodName := ⟨R_Mo, "isSo", "(II)Z"⟩
abbrev b_Mo_make : ByteArray := prog_7_method_12_code
def y_Mo_make : MethodName := ⟨R_Mo, "make", "(I)V"⟩
abbrev b_Mo_member : ByteArray := prog_7_method_13_code
def y_Mo_member : MethodName := ⟨R_Mo, "member", "(IIZ)I"⟩
abbrev b_Mo_isGood : ByteArray := prog_7_method_14_code
def y_Mo_isGood : MethodName := ⟨R_Mo, "isGood", "(IIII)Z"⟩
abbrev b_Mo_condition : ByteArray := prog_7_method_15_code
def y_Mo_condition : MethodName := ⟨R_Mo, "condition", "(IIII)I"⟩
abbrev b_Mo_rule : ByteArray := prog_7_method_16_code
def y_Mo_rule : MethodName := ⟨R_Mo, "rule", "(IZI)I"⟩
abbrev b_Mo_drop : ByteArray := prog_7_method_17_code
def y_Mo_drop : MethodName := ⟨R_Mo, "drop", "(I)I"⟩
abbrev b_Mo_firstRank : ByteArray := prog_7_method_18_code
def y_Mo_firstRank : MethodName := ⟨R_Mo, "firstRank", "(II)I"⟩
abbrev b_Mo_decide : ByteArray := prog_7_method_19_code
def y_Mo_decide : MethodName := ⟨R_Mo, "decide", "(II)I"⟩
abbrev b_Mo_isAllowed : ByteArray := prog_7_method_20_code
def y_Mo_isAllowed : MethodName := ⟨R_Mo, "isAllowed", "(I)Z"⟩
abbrev b_Mo_know : ByteArray := prog_7_method_21_code
def y_Mo_know : MethodName := ⟨R_Mo, "know", "()V"⟩
abbrev b_Mo_may : ByteArray := prog_7_method_22_code
def y_Mo_may : MethodName := ⟨R_Mo, "may", "(IIIIII)I"⟩
abbrev b_Mo_asks : ByteArray := prog_7_method_23_code
def y_Mo_asks : MethodName := ⟨R_Mo, "asks", "(I)I"⟩
abbrev b_Mo_ask : ByteArray := prog_7_method_24_code
def y_Mo_ask : MethodName := ⟨R_Mo, "ask", "(II)I"⟩
abbrev b_Mo_within : ByteArray := prog_7_method_25_code
def y_Mo_within : MethodName := ⟨R_Mo, "within", "(II)I"⟩
abbrev b_Mo_decides : ByteArray := prog_7_method_26_code
def y_Mo_decides : MethodName := ⟨R_Mo, "decides", "(I)I"⟩
abbrev b_Mo_sees : ByteArray := prog_7_method_27_code
def y_Mo_sees : MethodName := ⟨R_Mo, "sees", "(II)I"⟩
abbrev b_Mo_matters : ByteArray := prog_7_method_28_code
def y_Mo_matters : MethodName := ⟨R_Mo, "matters", "(I)I"⟩
abbrev b_Mo_wouldDecide : ByteArray := prog_7_method_29_code
def y_Mo_wouldDecide : MethodName := ⟨R_Mo, "wouldDecide", "(IZI)Z"⟩
abbrev b_Mo_idle : ByteArray := prog_7_method_30_code
def y_Mo_idle : MethodName := ⟨R_Mo, "idle", "(ZI)I"⟩
abbrev b_Mo_apart : ByteArray := prog_7_method_31_code
def y_Mo_apart : MethodName := ⟨R_Mo, "apart", "(II)I"⟩
abbrev b_Mo_allowed : ByteArray := prog_7_method_32_code
def y_Mo_allowed : MethodName := ⟨R_Mo, "allowed", "()I"⟩
abbrev b_Mo_conditions : ByteArray := prog_7_method_33_code
def y_Mo_conditions : MethodName := ⟨R_Mo, "conditions", "()I"⟩
abbrev b_Mo_rules : ByteArray := prog_7_method_34_code
def y_Mo_rules : MethodName := ⟨R_Mo, "rules", "()I"⟩
abbrev b_Lo_bitCount : ByteArray := prog_8_method_50_code
def y_Lo_bitCount : MethodName := ⟨R_Lo, "bitCount", "(J)I"⟩
/-- the words that every contract has: those of the tables that last -/
def AW : List Cond := lw_tbl.filter goodWord
theorem aw_t {w : Cond} (i : Nat) (h : tables_1[i]? = some w) (g : goodWord w = true) : w ∈ AW := List.mem_filter.mpr ⟨List.mem_append_right _ (List.mem_of_getElem? h), g⟩
theorem aw_s {w : Cond} (i : Nat) (h : (k2_sels lw_privs)[i]? = some w) (g : goodWord w = true) : w ∈ AW := List.mem_filter.mpr ⟨List.mem_append_left _ (List.mem_of_getElem? h), g⟩
theorem in_Co : ∀ w ∈ u_ws R_Co T_Co 5, w ∈ AW := by
  intro w hw
  obtain ⟨k, hk, rfl⟩ := List.mem_map.mp hw
  have hk : k < 5 := List.mem_range.mp hk
  rcases (show k = 0 ∨ k = 1 ∨ k = 2 ∨ k = 3 ∨ k = 4 by omega) with rfl | rfl | rfl | rfl | rfl
  · exact aw_t 144 (by decide +kernel) (by decide +kernel)
  · exact aw_t 146 (by decide +kernel) (by decide +kernel)
  · exact aw_t 148 (by decide +kernel) (by decide +kernel)
  · exact aw_t 150 (by decide +kernel) (by decide +kernel)
  · exact aw_t 152 (by decide +kernel) (by decide +kernel)
theorem in_Cb : ∀ w ∈ u_ws R_Cb T_Cb 3, w ∈ AW := by
  intro w hw
  obtain ⟨k, hk, rfl⟩ := List.mem_map.mp hw
  have hk : k < 3 := List.mem_range.mp hk
  rcases (show k = 0 ∨ k = 1 ∨ k = 2 by omega) with rfl | rfl | rfl
  · exact aw_t 29 (by decide +kernel) (by decide +kernel)
  · exact aw_t 31 (by decide +kernel) (by decide +kernel)
  · exact aw_t 33 (by decide +kernel) (by decide +kernel)
theorem in_Ru : ∀ w ∈ u_ws R_Ru T_Ru 4, w ∈ AW := by
  intro w hw
  obtain ⟨k, hk, rfl⟩ := List.mem_map.mp hw
  have hk : k < 4 := List.mem_range.mp hk
  rcases (show k = 0 ∨ k = 1 ∨ k = 2 ∨ k = 3 by omega) with rfl | rfl | rfl | rfl
  · exact aw_t 179 (by decide +kernel) (by decide +kernel)
  · exact aw_t 181 (by decide +kernel) (by decide +kernel)
  · exact aw_t 183 (by decide +kernel) (by decide +kernel)
  · exact aw_t 185 (by decide +kernel) (by decide +kernel)
theorem in_Rb : ∀ w ∈ u_ws R_Rb T_Rb 2, w ∈ AW := by
  intro w hw
  obtain ⟨k, hk, rfl⟩ := List.mem_map.mp hw
  have hk : k < 2 := List.mem_range.mp hk
  rcases (show k = 0 ∨ k = 1 by omega) with rfl | rfl
  · exact aw_t 48 (by decide +kernel) (by decide +kernel)
  · exact aw_t 50 (by decide +kernel) (by decide +kernel)
theorem in_De : ∀ w ∈ u_ws R_De T_De 2, w ∈ AW := by
  intro w hw
  obtain ⟨k, hk, rfl⟩ := List.mem_map.mp hw
  have hk : k < 2 := List.mem_range.mp hk
  rcases (show k = 0 ∨ k = 1 by omega) with rfl | rfl
  · exact aw_t 55 (by decide +kernel) (by decide +kernel)
  · exact aw_t 57 (by decide +kernel) (by decide +kernel)
theorem in_Mo : ∀ w ∈ u_ws R_Mo T_Mo 14, w ∈ AW := by
  intro w hw
  obtain ⟨k, hk, rfl⟩ := List.mem_map.mp hw
  have hk : k < 14 := List.mem_range.mp hk
  rcases (show k = 0 ∨ k = 1 ∨ k = 2 ∨ k = 3 ∨ k = 4 ∨ k = 5 ∨ k = 6 ∨ k = 7 ∨ k = 8 ∨ k = 9 ∨ k = 10 ∨ k = 11 ∨ k = 12 ∨ k = 13 by omega) with rfl | rfl | rfl | rfl | rfl | rfl | rfl | rfl | rfl | rfl | rfl | rfl | rfl | rfl
  · exact aw_t 335 (by decide +kernel) (by decide +kernel)
  · exact aw_t 337 (by decide +kernel) (by decide +kernel)
  · exact aw_t 339 (by decide +kernel) (by decide +kernel)
  · exact aw_t 341 (by decide +kernel) (by decide +kernel)
  · exact aw_t 343 (by decide +kernel) (by decide +kernel)
  · exact aw_t 345 (by decide +kernel) (by decide +kernel)
  · exact aw_t 347 (by decide +kernel) (by decide +kernel)
  · exact aw_t 349 (by decide +kernel) (by decide +kernel)
  · exact aw_t 351 (by decide +kernel) (by decide +kernel)
  · exact aw_t 353 (by decide +kernel) (by decide +kernel)
  · exact aw_t 355 (by decide +kernel) (by decide +kernel)
  · exact aw_t 357 (by decide +kernel) (by decide +kernel)
  · exact aw_t 359 (by decide +kernel) (by decide +kernel)
  · exact aw_t 361 (by decide +kernel) (by decide +kernel)
end
section
theorem kw_0 : (.constantLong R_Lo 314 6148914691236517205 : Cond) ∈ AW := aw_t 233 (by decide +kernel) (by decide +kernel)
theorem kw_1 : (.constantLong R_Lo 316 3689348814741910323 : Cond) ∈ AW := aw_t 234 (by decide +kernel) (by decide +kernel)
theorem kw_2 : (.constantLong R_Lo 318 1085102592571150095 : Cond) ∈ AW := aw_t 235 (by decide +kernel) (by decide +kernel)
theorem kw_3 : (.fieldLink R_Co 24 "RightDesk$Condition" "words" "[J" : Cond) ∈ AW := aw_t 143 (by decide +kernel) (by decide +kernel)
theorem kw_4 : (.code y_De_isBelow b_De_isBelow 2 (some .boolean) : Cond) ∈ AW := aw_t 66 (by decide +kernel) (by decide +kernel)
theorem kw_5 : (.initialized R_De : Cond) ∈ AW := aw_t 1 (by decide +kernel) (by decide +kernel)
theorem kw_6 : (.static y_De_isBelow : Cond) ∈ AW := aw_t 65 (by decide +kernel) (by decide +kernel)
theorem kw_7 : (.fieldLink R_Cb 11 "RightDesk$ConditionBook" "made" "[LRightDesk$Condition;" : Cond) ∈ AW := aw_t 25 (by decide +kernel) (by decide +kernel)
theorem kw_8 : (.fieldLink R_Rb 11 "RightDesk$RuleBook" "row" "[LRightDesk$Rule;" : Cond) ∈ AW := aw_t 45 (by decide +kernel) (by decide +kernel)
theorem kw_9 : (.fieldLink R_Ru 20 "RightDesk$Rule" "condition" "LRightDesk$Condition;" : Cond) ∈ AW := aw_t 175 (by decide +kernel) (by decide +kernel)
theorem kw_10 : (.code y_Co_word b_Co_word 2 (some .long) : Cond) ∈ AW := aw_t 110 (by decide +kernel) (by decide +kernel)
theorem kw_11 : (.initialized R_Co : Cond) ∈ AW := aw_t 5 (by decide +kernel) (by decide +kernel)
theorem kw_12 : (.instanceMethod y_Co_word : Cond) ∈ AW := aw_t 108 (by decide +kernel) (by decide +kernel)
theorem kw_13 : (.selects R_Co y_Co_word y_Co_word : Cond) ∈ AW := aw_s 7 (by decide +kernel) (by decide +kernel)
theorem kw_14 : (.fieldLink R_Ru 13 "RightDesk$Rule" "rank" "I" : Cond) ∈ AW := aw_t 171 (by decide +kernel) (by decide +kernel)
theorem kw_15 : (.fieldLink R_Ru 16 "RightDesk$Rule" "denies" "Z" : Cond) ∈ AW := aw_t 172 (by decide +kernel) (by decide +kernel)
theorem kw_16 : (.constantLong R_Cb 74 4294967295 : Cond) ∈ AW := aw_t 92 (by decide +kernel) (by decide +kernel)
theorem kw_17 : (.constantLong R_De 116 72340172838076673 : Cond) ∈ AW := aw_t 97 (by decide +kernel) (by decide +kernel)
theorem kw_18 : (.code y_Cb_at b_Cb_at 2 (some (.object "RightDesk$Condition")) : Cond) ∈ AW := aw_t 83 (by decide +kernel) (by decide +kernel)
theorem kw_19 : (.initialized R_Cb : Cond) ∈ AW := aw_t 2 (by decide +kernel) (by decide +kernel)
theorem kw_20 : (.methodLink R_Cb 47 y_Cb_at : Cond) ∈ AW := aw_t 80 (by decide +kernel) (by decide +kernel)
theorem kw_21 : (.instanceMethod y_Cb_at : Cond) ∈ AW := aw_t 82 (by decide +kernel) (by decide +kernel)
theorem kw_22 : (.selects R_Cb y_Cb_at y_Cb_at : Cond) ∈ AW := aw_s 3 (by decide +kernel) (by decide +kernel)
theorem kw_23 : (.fieldLink R_Cb 17 "RightDesk$ConditionBook" "members" "[Z" : Cond) ∈ AW := aw_t 26 (by decide +kernel) (by decide +kernel)
theorem kw_24 : (.fieldLink R_Cb 21 "RightDesk$ConditionBook" "count" "I" : Cond) ∈ AW := aw_t 27 (by decide +kernel) (by decide +kernel)
theorem kw_25 : (.code y_Cb_wordOf b_Cb_wordOf 4 (some .long) : Cond) ∈ AW := aw_t 105 (by decide +kernel) (by decide +kernel)
theorem kw_26 : (.methodLink R_Cb 76 y_Cb_wordOf : Cond) ∈ AW := aw_t 102 (by decide +kernel) (by decide +kernel)
theorem kw_27 : (.instanceMethod y_Cb_wordOf : Cond) ∈ AW := aw_t 104 (by decide +kernel) (by decide +kernel)
theorem kw_28 : (.selects R_Cb y_Cb_wordOf y_Cb_wordOf : Cond) ∈ AW := aw_s 6 (by decide +kernel) (by decide +kernel)
theorem kw_29 : (.constantLong R_Cb 57 (-1) : Cond) ∈ AW := aw_t 88 (by decide +kernel) (by decide +kernel)
theorem kw_30 : (.code y_Cb_twoOfThree b_Cb_twoOfThree 6 (some .long) : Cond) ∈ AW := aw_t 114 (by decide +kernel) (by decide +kernel)
theorem kw_31 : (.methodLink R_Cb 82 y_Cb_twoOfThree : Cond) ∈ AW := aw_t 112 (by decide +kernel) (by decide +kernel)
theorem kw_32 : (.static y_Cb_twoOfThree : Cond) ∈ AW := aw_t 113 (by decide +kernel) (by decide +kernel)
theorem kw_33 : (.code y_Cb_isMember b_Cb_isMember 4 (some .boolean) : Cond) ∈ AW := aw_t 74 (by decide +kernel) (by decide +kernel)
theorem kw_34 : (.methodLink R_Cb 40 y_Cb_isMember : Cond) ∈ AW := aw_t 71 (by decide +kernel) (by decide +kernel)
theorem kw_35 : (.instanceMethod y_Cb_isMember : Cond) ∈ AW := aw_t 73 (by decide +kernel) (by decide +kernel)
theorem kw_36 : (.selects R_Cb y_Cb_isMember y_Cb_isMember : Cond) ∈ AW := aw_s 1 (by decide +kernel) (by decide +kernel)
theorem kw_37 : (.code y_Cb_predicateIn b_Cb_predicateIn 2 (some .long) : Cond) ∈ AW := aw_t 91 (by decide +kernel) (by decide +kernel)
theorem kw_38 : (.methodLink R_Cb 59 y_Cb_predicateIn : Cond) ∈ AW := aw_t 89 (by decide +kernel) (by decide +kernel)
theorem kw_39 : (.static y_Cb_predicateIn : Cond) ∈ AW := aw_t 90 (by decide +kernel) (by decide +kernel)
theorem kw_40 : (.constantLong R_Cb 63 1095216660735 : Cond) ∈ AW := aw_t 93 (by decide +kernel) (by decide +kernel)
theorem kw_41 : (.code y_De_versionsFromTo b_De_versionsFromTo 5 (some .long) : Cond) ∈ AW := aw_t 96 (by decide +kernel) (by decide +kernel)
theorem kw_42 : (.static y_De_versionsFromTo : Cond) ∈ AW := aw_t 95 (by decide +kernel) (by decide +kernel)
theorem kw_43 : (.code y_Cb_putTogether b_Cb_putTogether 3 (some .long) : Cond) ∈ AW := aw_t 101 (by decide +kernel) (by decide +kernel)
theorem kw_44 : (.methodLink R_Cb 71 y_Cb_putTogether : Cond) ∈ AW := aw_t 98 (by decide +kernel) (by decide +kernel)
theorem kw_45 : (.instanceMethod y_Cb_putTogether : Cond) ∈ AW := aw_t 100 (by decide +kernel) (by decide +kernel)
theorem kw_46 : (.selects R_Cb y_Cb_putTogether y_Cb_putTogether : Cond) ∈ AW := aw_s 5 (by decide +kernel) (by decide +kernel)
theorem kw_47 : (.code y_Rb_at b_Rb_at 2 (some (.object "RightDesk$Rule")) : Cond) ∈ AW := aw_t 195 (by decide +kernel) (by decide +kernel)
theorem kw_48 : (.initialized R_Rb : Cond) ∈ AW := aw_t 3 (by decide +kernel) (by decide +kernel)
theorem kw_49 : (.methodLink R_Rb 25 y_Rb_at : Cond) ∈ AW := aw_t 192 (by decide +kernel) (by decide +kernel)
theorem kw_50 : (.instanceMethod y_Rb_at : Cond) ∈ AW := aw_t 194 (by decide +kernel) (by decide +kernel)
theorem kw_51 : (.selects R_Rb y_Rb_at y_Rb_at : Cond) ∈ AW := aw_s 13 (by decide +kernel) (by decide +kernel)
theorem kw_52 : (.code y_Ru_word b_Ru_word 2 (some .long) : Cond) ∈ AW := aw_t 223 (by decide +kernel) (by decide +kernel)
theorem kw_53 : (.initialized R_Ru : Cond) ∈ AW := aw_t 6 (by decide +kernel) (by decide +kernel)
theorem kw_54 : (.instanceMethod y_Ru_word : Cond) ∈ AW := aw_t 222 (by decide +kernel) (by decide +kernel)
theorem kw_55 : (.selects R_Ru y_Ru_word y_Ru_word : Cond) ∈ AW := aw_s 18 (by decide +kernel) (by decide +kernel)
theorem kw_56 : (.code y_Ru_goesBefore b_Ru_goesBefore 2 (some .boolean) : Cond) ∈ AW := aw_t 199 (by decide +kernel) (by decide +kernel)
theorem kw_57 : (.instanceMethod y_Ru_goesBefore : Cond) ∈ AW := aw_t 198 (by decide +kernel) (by decide +kernel)
theorem kw_58 : (.selects R_Ru y_Ru_goesBefore y_Ru_goesBefore : Cond) ∈ AW := aw_s 14 (by decide +kernel) (by decide +kernel)
theorem kw_59 : (.fieldLink R_Rb 17 "RightDesk$RuleBook" "count" "I" : Cond) ∈ AW := aw_t 46 (by decide +kernel) (by decide +kernel)
theorem kw_60 : (.constantLong R_Rb 51 (-1) : Cond) ∈ AW := aw_t 260 (by decide +kernel) (by decide +kernel)
theorem kw_61 : (.code y_Rb_wordAt b_Rb_wordAt 4 (some .long) : Cond) ∈ AW := aw_t 259 (by decide +kernel) (by decide +kernel)
theorem kw_62 : (.methodLink R_Rb 53 y_Rb_wordAt : Cond) ∈ AW := aw_t 256 (by decide +kernel) (by decide +kernel)
theorem kw_63 : (.instanceMethod y_Rb_wordAt : Cond) ∈ AW := aw_t 258 (by decide +kernel) (by decide +kernel)
theorem kw_64 : (.selects R_Rb y_Rb_wordAt y_Rb_wordAt : Cond) ∈ AW := aw_s 20 (by decide +kernel) (by decide +kernel)
theorem kw_65 : (.code y_Rb_decidedAt b_Rb_decidedAt 6 (some .long) : Cond) ∈ AW := aw_t 255 (by decide +kernel) (by decide +kernel)
theorem kw_66 : (.methodLink R_Rb 57 y_Rb_decidedAt : Cond) ∈ AW := aw_t 282 (by decide +kernel) (by decide +kernel)
theorem kw_67 : (.instanceMethod y_Rb_decidedAt : Cond) ∈ AW := aw_t 254 (by decide +kernel) (by decide +kernel)
theorem kw_68 : (.selects R_Rb y_Rb_decidedAt y_Rb_decidedAt : Cond) ∈ AW := aw_s 19 (by decide +kernel) (by decide +kernel)
theorem kw_69 : (.code y_Rb_allowedFrom b_Rb_allowedFrom 13 (some .long) : Cond) ∈ AW := aw_t 273 (by decide +kernel) (by decide +kernel)
theorem kw_70 : (.methodLink R_Rb 60 y_Rb_allowedFrom : Cond) ∈ AW := aw_t 283 (by decide +kernel) (by decide +kernel)
theorem kw_71 : (.instanceMethod y_Rb_allowedFrom : Cond) ∈ AW := aw_t 272 (by decide +kernel) (by decide +kernel)
theorem kw_72 : (.selects R_Rb y_Rb_allowedFrom y_Rb_allowedFrom : Cond) ∈ AW := aw_s 22 (by decide +kernel) (by decide +kernel)
theorem kw_73 : (.code y_Ru_rankBehind b_Ru_rankBehind 2 (some .int) : Cond) ∈ AW := aw_t 295 (by decide +kernel) (by decide +kernel)
theorem kw_74 : (.instanceMethod y_Ru_rankBehind : Cond) ∈ AW := aw_t 294 (by decide +kernel) (by decide +kernel)
theorem kw_75 : (.selects R_Ru y_Ru_rankBehind y_Ru_rankBehind : Cond) ∈ AW := aw_s 25 (by decide +kernel) (by decide +kernel)
theorem kw_76 : (.code y_Lo_bitCount b_Lo_bitCount 2 (some .int) : Cond) ∈ AW := aw_t 232 (by decide +kernel) (by decide +kernel)
theorem kw_77 : (.initialized R_Lo : Cond) ∈ AW := aw_t 7 (by decide +kernel) (by decide +kernel)
theorem kw_78 : (.methodLink R_De 74 y_Lo_bitCount : Cond) ∈ AW := aw_t 230 (by decide +kernel) (by decide +kernel)
theorem kw_79 : (.static y_Lo_bitCount : Cond) ∈ AW := aw_t 231 (by decide +kernel) (by decide +kernel)
theorem kw_80 : (.fieldLink R_De 10 "RightDesk" "conditionBook" "LRightDesk$ConditionBook;" : Cond) ∈ AW := aw_t 53 (by decide +kernel) (by decide +kernel)
theorem kw_81 : (.fieldLink R_De 19 "RightDesk" "ruleBook" "LRightDesk$RuleBook;" : Cond) ∈ AW := aw_t 54 (by decide +kernel) (by decide +kernel)
theorem kw_82 : (.constantLong R_De 84 (-1) : Cond) ∈ AW := aw_t 247 (by decide +kernel) (by decide +kernel)
theorem kw_83 : (.code y_De_allowedIn b_De_allowedIn 2 (some .long) : Cond) ∈ AW := aw_t 269 (by decide +kernel) (by decide +kernel)
theorem kw_84 : (.methodLink R_De 93 y_De_allowedIn : Cond) ∈ AW := aw_t 266 (by decide +kernel) (by decide +kernel)
theorem kw_85 : (.instanceMethod y_De_allowedIn : Cond) ∈ AW := aw_t 268 (by decide +kernel) (by decide +kernel)
theorem kw_86 : (.selects R_De y_De_allowedIn y_De_allowedIn : Cond) ∈ AW := aw_s 21 (by decide +kernel) (by decide +kernel)
theorem kw_87 : (.code y_De_bitPlace b_De_bitPlace 7 (some .int) : Cond) ∈ AW := aw_t 242 (by decide +kernel) (by decide +kernel)
theorem kw_88 : (.methodLink R_De 80 y_De_bitPlace : Cond) ∈ AW := aw_t 240 (by decide +kernel) (by decide +kernel)
theorem kw_89 : (.static y_De_bitPlace : Cond) ∈ AW := aw_t 241 (by decide +kernel) (by decide +kernel)
theorem kw_90 : (.code y_Rb_placeOf b_Rb_placeOf 4 (some .int) : Cond) ∈ AW := aw_t 207 (by decide +kernel) (by decide +kernel)
theorem kw_91 : (.instanceMethod y_Rb_placeOf : Cond) ∈ AW := aw_t 206 (by decide +kernel) (by decide +kernel)
theorem kw_92 : (.selects R_Rb y_Rb_placeOf y_Rb_placeOf : Cond) ∈ AW := aw_s 15 (by decide +kernel) (by decide +kernel)
theorem kw_93 : (.code y_Rb_turnedAt b_Rb_turnedAt 8 (some .long) : Cond) ∈ AW := aw_t 281 (by decide +kernel) (by decide +kernel)
theorem kw_94 : (.instanceMethod y_Rb_turnedAt : Cond) ∈ AW := aw_t 280 (by decide +kernel) (by decide +kernel)
theorem kw_95 : (.selects R_Rb y_Rb_turnedAt y_Rb_turnedAt : Cond) ∈ AW := aw_s 23 (by decide +kernel) (by decide +kernel)
theorem kw_96 : (.methodLink R_De 23 y_De_isBelow : Cond) ∈ AW := aw_t 64 (by decide +kernel) (by decide +kernel)
theorem kw_97 : (.methodLink R_De 90 y_De_versionsFromTo : Cond) ∈ AW := aw_t 265 (by decide +kernel) (by decide +kernel)
theorem kw_98 : (.code y_Rb_idleRank b_Rb_idleRank 10 (some .int) : Cond) ∈ AW := aw_t 291 (by decide +kernel) (by decide +kernel)
theorem kw_99 : (.instanceMethod y_Rb_idleRank : Cond) ∈ AW := aw_t 290 (by decide +kernel) (by decide +kernel)
theorem kw_100 : (.selects R_Rb y_Rb_idleRank y_Rb_idleRank : Cond) ∈ AW := aw_s 24 (by decide +kernel) (by decide +kernel)
theorem kw_101 : (.methodLink R_De 103 Lib.Math.max.name : Cond) ∈ AW := aw_t 296 (by decide +kernel) (by decide +kernel)
theorem kw_102 : (.static Lib.Math.max.name : Cond) ∈ AW := aw_t 297 (by decide +kernel) (by decide +kernel)
theorem kw_103 : (.initialized "java/lang/Math" : Cond) ∈ AW := aw_t 8 (by decide +kernel) (by decide +kernel)
theorem kw_104 : (.code Lib.Math.max.name Lib.Math.max.code 2 (some .int) : Cond) ∈ AW := aw_t 298 (by decide +kernel) (by decide +kernel)
theorem kw_105 : (.code y_Rb_deciderOf b_Rb_deciderOf 7 (some (.object "RightDesk$Rule")) : Cond) ∈ AW := aw_t 219 (by decide +kernel) (by decide +kernel)
theorem kw_106 : (.instanceMethod y_Rb_deciderOf : Cond) ∈ AW := aw_t 218 (by decide +kernel) (by decide +kernel)
theorem kw_107 : (.selects R_Rb y_Rb_deciderOf y_Rb_deciderOf : Cond) ∈ AW := aw_s 17 (by decide +kernel) (by decide +kernel)
theorem kw_108 : (.methodLink R_Co 3 objectInit : Cond) ∈ AW := aw_t 134 (by decide +kernel) (by decide +kernel)
theorem kw_109 : (.instanceMethod objectInit : Cond) ∈ AW := aw_t 15 (by decide +kernel) (by decide +kernel)
theorem kw_110 : (.code objectInit ⟨#[0xb1]⟩ 1 none : Cond) ∈ AW := aw_t 16 (by decide +kernel) (by decide +kernel)
theorem kw_111 : (.fieldLink R_Co 9 "RightDesk$Condition" "kind" "I" : Cond) ∈ AW := aw_t 135 (by decide +kernel) (by decide +kernel)
theorem kw_112 : (.fieldLink R_Co 15 "RightDesk$Condition" "a" "I" : Cond) ∈ AW := aw_t 137 (by decide +kernel) (by decide +kernel)
theorem kw_113 : (.fieldLink R_Co 18 "RightDesk$Condition" "b" "I" : Cond) ∈ AW := aw_t 139 (by decide +kernel) (by decide +kernel)
theorem kw_114 : (.fieldLink R_Co 21 "RightDesk$Condition" "c" "I" : Cond) ∈ AW := aw_t 141 (by decide +kernel) (by decide +kernel)
theorem kw_115 : (.arrayClass .long : Cond) ∈ AW := aw_t 155 (by decide +kernel) (by decide +kernel)
theorem kw_116 : (.methodLink R_Ru 1 objectInit : Cond) ∈ AW := aw_t 170 (by decide +kernel) (by decide +kernel)
theorem kw_117 : (.fieldLink R_Ru 7 "RightDesk$Rule" "number" "I" : Cond) ∈ AW := aw_t 176 (by decide +kernel) (by decide +kernel)
theorem kw_118 : (.methodLink R_Cb 3 objectInit : Cond) ∈ AW := aw_t 22 (by decide +kernel) (by decide +kernel)
theorem kw_119 : (.classLink R_Cb 9 "RightDesk$Condition" : Cond) ∈ AW := aw_t 23 (by decide +kernel) (by decide +kernel)
theorem kw_120 : (.arrayClass .boolean : Cond) ∈ AW := aw_t 36 (by decide +kernel) (by decide +kernel)
theorem kw_121 : (.methodLink R_Rb 3 objectInit : Cond) ∈ AW := aw_t 42 (by decide +kernel) (by decide +kernel)
theorem kw_122 : (.classLink R_Rb 9 "RightDesk$Rule" : Cond) ∈ AW := aw_t 43 (by decide +kernel) (by decide +kernel)
theorem kw_123 : (.methodLink R_De 1 objectInit : Cond) ∈ AW := aw_t 14 (by decide +kernel) (by decide +kernel)
theorem kw_124 : (.classLink R_De 7 R_Cb : Cond) ∈ AW := aw_t 17 (by decide +kernel) (by decide +kernel)
theorem kw_125 : (.instantiable R_Cb 3 : Cond) ∈ AW := aw_t 18 (by decide +kernel) (by decide +kernel)
theorem kw_126 : (.code y_Cb_init b_Cb_init 1 none : Cond) ∈ AW := aw_t 21 (by decide +kernel) (by decide +kernel)
theorem kw_127 : (.instanceMethod y_Cb_init : Cond) ∈ AW := aw_t 20 (by decide +kernel) (by decide +kernel)
theorem kw_128 : (.classLink R_De 16 R_Rb : Cond) ∈ AW := aw_t 37 (by decide +kernel) (by decide +kernel)
theorem kw_129 : (.instantiable R_Rb 2 : Cond) ∈ AW := aw_t 38 (by decide +kernel) (by decide +kernel)
theorem kw_130 : (.code y_Rb_init b_Rb_init 1 none : Cond) ∈ AW := aw_t 41 (by decide +kernel) (by decide +kernel)
theorem kw_131 : (.instanceMethod y_Rb_init : Cond) ∈ AW := aw_t 40 (by decide +kernel) (by decide +kernel)
theorem kw_132 : (.classLink R_Cb 9 R_Co : Cond) ∈ AW := aw_t 23 (by decide +kernel) (by decide +kernel)
theorem kw_133 : (.instantiable R_Co 5 : Cond) ∈ AW := aw_t 109 (by decide +kernel) (by decide +kernel)
theorem kw_134 : (.code y_Co_init b_Co_init 5 none : Cond) ∈ AW := aw_t 133 (by decide +kernel) (by decide +kernel)
theorem kw_135 : (.instanceMethod y_Co_init : Cond) ∈ AW := aw_t 132 (by decide +kernel) (by decide +kernel)
theorem kw_136 : (.code y_Cb_workOut b_Cb_workOut 3 (some .long) : Cond) ∈ AW := aw_t 87 (by decide +kernel) (by decide +kernel)
theorem kw_137 : (.methodLink R_Cb 32 y_Cb_workOut : Cond) ∈ AW := aw_t 84 (by decide +kernel) (by decide +kernel)
theorem kw_138 : (.instanceMethod y_Cb_workOut : Cond) ∈ AW := aw_t 86 (by decide +kernel) (by decide +kernel)
theorem kw_139 : (.selects R_Cb y_Cb_workOut y_Cb_workOut : Cond) ∈ AW := aw_s 4 (by decide +kernel) (by decide +kernel)
theorem kw_140 : (.code y_Co_setWord b_Co_setWord 4 none : Cond) ∈ AW := aw_t 118 (by decide +kernel) (by decide +kernel)
theorem kw_141 : (.instanceMethod y_Co_setWord : Cond) ∈ AW := aw_t 117 (by decide +kernel) (by decide +kernel)
theorem kw_142 : (.selects R_Co y_Co_setWord y_Co_setWord : Cond) ∈ AW := aw_s 8 (by decide +kernel) (by decide +kernel)
theorem kw_143 : (.code y_Cb_workOutAgain b_Cb_workOutAgain 6 none : Cond) ∈ AW := aw_t 79 (by decide +kernel) (by decide +kernel)
theorem kw_144 : (.methodLink R_Cb 43 y_Cb_workOutAgain : Cond) ∈ AW := aw_t 76 (by decide +kernel) (by decide +kernel)
theorem kw_145 : (.instanceMethod y_Cb_workOutAgain : Cond) ∈ AW := aw_t 78 (by decide +kernel) (by decide +kernel)
theorem kw_146 : (.selects R_Cb y_Cb_workOutAgain y_Cb_workOutAgain : Cond) ∈ AW := aw_s 2 (by decide +kernel) (by decide +kernel)
theorem kw_147 : (.classLink R_Rb 9 R_Ru : Cond) ∈ AW := aw_t 43 (by decide +kernel) (by decide +kernel)
theorem kw_148 : (.instantiable R_Ru 4 : Cond) ∈ AW := aw_t 166 (by decide +kernel) (by decide +kernel)
theorem kw_149 : (.code y_Ru_init b_Ru_init 5 none : Cond) ∈ AW := aw_t 169 (by decide +kernel) (by decide +kernel)
theorem kw_150 : (.instanceMethod y_Ru_init : Cond) ∈ AW := aw_t 168 (by decide +kernel) (by decide +kernel)
theorem kw_151 : (.code y_Rb_placeFor b_Rb_placeFor 4 (some .int) : Cond) ∈ AW := aw_t 191 (by decide +kernel) (by decide +kernel)
theorem kw_152 : (.methodLink R_Rb 35 y_Rb_placeFor : Cond) ∈ AW := aw_t 188 (by decide +kernel) (by decide +kernel)
theorem kw_153 : (.instanceMethod y_Rb_placeFor : Cond) ∈ AW := aw_t 190 (by decide +kernel) (by decide +kernel)
theorem kw_154 : (.selects R_Rb y_Rb_placeFor y_Rb_placeFor : Cond) ∈ AW := aw_s 12 (by decide +kernel) (by decide +kernel)
theorem kw_155 : (.code y_Cb_setMember b_Cb_setMember 5 (some .boolean) : Cond) ∈ AW := aw_t 70 (by decide +kernel) (by decide +kernel)
theorem kw_156 : (.instanceMethod y_Cb_setMember : Cond) ∈ AW := aw_t 69 (by decide +kernel) (by decide +kernel)
theorem kw_157 : (.selects R_Cb y_Cb_setMember y_Cb_setMember : Cond) ∈ AW := aw_s 0 (by decide +kernel) (by decide +kernel)
theorem kw_158 : (.code y_Cb_canBe b_Cb_canBe 5 (some .boolean) : Cond) ∈ AW := aw_t 126 (by decide +kernel) (by decide +kernel)
theorem kw_159 : (.instanceMethod y_Cb_canBe : Cond) ∈ AW := aw_t 125 (by decide +kernel) (by decide +kernel)
theorem kw_160 : (.selects R_Cb y_Cb_canBe y_Cb_canBe : Cond) ∈ AW := aw_s 9 (by decide +kernel) (by decide +kernel)
theorem kw_161 : (.code y_Cb_add b_Cb_add 7 (some .int) : Cond) ∈ AW := aw_t 130 (by decide +kernel) (by decide +kernel)
theorem kw_162 : (.instanceMethod y_Cb_add : Cond) ∈ AW := aw_t 129 (by decide +kernel) (by decide +kernel)
theorem kw_163 : (.selects R_Cb y_Cb_add y_Cb_add : Cond) ∈ AW := aw_s 10 (by decide +kernel) (by decide +kernel)
theorem kw_164 : (.code y_Rb_add b_Rb_add 7 (some .int) : Cond) ∈ AW := aw_t 164 (by decide +kernel) (by decide +kernel)
theorem kw_165 : (.instanceMethod y_Rb_add : Cond) ∈ AW := aw_t 163 (by decide +kernel) (by decide +kernel)
theorem kw_166 : (.selects R_Rb y_Rb_add y_Rb_add : Cond) ∈ AW := aw_s 11 (by decide +kernel) (by decide +kernel)
theorem kw_167 : (.code y_Rb_remove b_Rb_remove 5 (some .int) : Cond) ∈ AW := aw_t 211 (by decide +kernel) (by decide +kernel)
theorem kw_168 : (.instanceMethod y_Rb_remove : Cond) ∈ AW := aw_t 210 (by decide +kernel) (by decide +kernel)
theorem kw_169 : (.selects R_Rb y_Rb_remove y_Rb_remove : Cond) ∈ AW := aw_s 16 (by decide +kernel) (by decide +kernel)
def gNest : List Cond := [.methodLinkNest R_Co 28 y_De_isBelow "RightDesk", .methodLinkNest R_Cb 25 y_De_isBelow "RightDesk", .methodLinkNest R_Rb 21 y_De_isBelow "RightDesk", .methodLinkNest R_Ru 24 y_Co_word "RightDesk", .methodLinkNest R_Cb 86 y_Co_word "RightDesk", .fieldLinkNest R_Cb 51 "RightDesk$Condition" "kind" "I" "RightDesk", .fieldLinkNest R_Cb 54 "RightDesk$Condition" "a" "I" "RightDesk", .fieldLinkNest R_Cb 65 "RightDesk$Condition" "b" "I" "RightDesk", .fieldLinkNest R_Cb 79 "RightDesk$Condition" "c" "I" "RightDesk", .methodLinkNest R_Cb 68 y_De_versionsFromTo "RightDesk", .methodLinkNest R_Rb 43 y_Ru_word "RightDesk", .fieldLinkNest R_Rb 29 "RightDesk$Rule" "number" "I" "RightDesk", .methodLinkNest R_Rb 39 y_Ru_goesBefore "RightDesk", .fieldLinkNest R_Rb 47 "RightDesk$Rule" "denies" "Z" "RightDesk", .methodLinkNest R_Rb 64 y_Ru_rankBehind "RightDesk", .fieldLinkNest R_De 108 "RightDesk$ConditionBook" "count" "I" "RightDesk", .fieldLinkNest R_De 111 "RightDesk$RuleBook" "count" "I" "RightDesk", .methodLinkNest R_De 112 y_Rb_allowedFrom "RightDesk", .methodLinkNest R_De 39 y_Cb_at "RightDesk", .methodLinkNest R_De 68 y_Co_word "RightDesk", .methodLinkNest R_De 46 y_Rb_placeOf "RightDesk", .methodLinkNest R_De 86 y_Rb_decidedAt "RightDesk", .methodLinkNest R_De 96 y_Rb_turnedAt "RightDesk", .methodLinkNest R_De 99 y_Rb_idleRank "RightDesk", .methodLinkNest R_De 54 y_Rb_deciderOf "RightDesk", .fieldLinkNest R_De 58 "RightDesk$Rule" "number" "I" "RightDesk", .fieldLinkNest R_De 64 "RightDesk$Rule" "denies" "Z" "RightDesk", .methodLinkNest R_De 9 y_Cb_init "RightDesk", .methodLinkNest R_De 18 y_Rb_init "RightDesk", .methodLinkNest R_Cb 29 y_Co_init "RightDesk", .methodLinkNest R_Cb 36 y_Co_setWord "RightDesk", .methodLinkNest R_Rb 32 y_Ru_init "RightDesk", .methodLinkNest R_De 27 y_Cb_setMember "RightDesk", .methodLinkNest R_De 31 y_Cb_canBe "RightDesk", .methodLinkNest R_De 35 y_Cb_add "RightDesk", .methodLinkNest R_De 43 y_Rb_add "RightDesk", .methodLinkNest R_De 50 y_Rb_remove "RightDesk"]
theorem kz_0 : (.methodLinkNest R_Co 28 y_De_isBelow "RightDesk" : Cond) ∈ gNest := List.mem_of_getElem? (i := 0) rfl
theorem kz_1 : (.methodLinkNest R_Cb 25 y_De_isBelow "RightDesk" : Cond) ∈ gNest := List.mem_of_getElem? (i := 1) rfl
theorem kz_2 : (.methodLinkNest R_Rb 21 y_De_isBelow "RightDesk" : Cond) ∈ gNest := List.mem_of_getElem? (i := 2) rfl
theorem kz_3 : (.methodLinkNest R_Ru 24 y_Co_word "RightDesk" : Cond) ∈ gNest := List.mem_of_getElem? (i := 3) rfl
theorem kz_4 : (.methodLinkNest R_Cb 86 y_Co_word "RightDesk" : Cond) ∈ gNest := List.mem_of_getElem? (i := 4) rfl
theorem kz_5 : (.fieldLinkNest R_Cb 51 "RightDesk$Condition" "kind" "I" "RightDesk" : Cond) ∈ gNest := List.mem_of_getElem? (i := 5) rfl
theorem kz_6 : (.fieldLinkNest R_Cb 54 "RightDesk$Condition" "a" "I" "RightDesk" : Cond) ∈ gNest := List.mem_of_getElem? (i := 6) rfl
theorem kz_7 : (.fieldLinkNest R_Cb 65 "RightDesk$Condition" "b" "I" "RightDesk" : Cond) ∈ gNest := List.mem_of_getElem? (i := 7) rfl
theorem kz_8 : (.fieldLinkNest R_Cb 79 "RightDesk$Condition" "c" "I" "RightDesk" : Cond) ∈ gNest := List.mem_of_getElem? (i := 8) rfl
theorem kz_9 : (.methodLinkNest R_Cb 68 y_De_versionsFromTo "RightDesk" : Cond) ∈ gNest := List.mem_of_getElem? (i := 9) rfl
theorem kz_10 : (.methodLinkNest R_Rb 43 y_Ru_word "RightDesk" : Cond) ∈ gNest := List.mem_of_getElem? (i := 10) rfl
theorem kz_11 : (.fieldLinkNest R_Rb 29 "RightDesk$Rule" "number" "I" "RightDesk" : Cond) ∈ gNest := List.mem_of_getElem? (i := 11) rfl
theorem kz_12 : (.methodLinkNest R_Rb 39 y_Ru_goesBefore "RightDesk" : Cond) ∈ gNest := List.mem_of_getElem? (i := 12) rfl
theorem kz_13 : (.fieldLinkNest R_Rb 47 "RightDesk$Rule" "denies" "Z" "RightDesk" : Cond) ∈ gNest := List.mem_of_getElem? (i := 13) rfl
theorem kz_14 : (.methodLinkNest R_Rb 64 y_Ru_rankBehind "RightDesk" : Cond) ∈ gNest := List.mem_of_getElem? (i := 14) rfl
theorem kz_15 : (.fieldLinkNest R_De 108 "RightDesk$ConditionBook" "count" "I" "RightDesk" : Cond) ∈ gNest := List.mem_of_getElem? (i := 15) rfl
theorem kz_16 : (.fieldLinkNest R_De 111 "RightDesk$RuleBook" "count" "I" "RightDesk" : Cond) ∈ gNest := List.mem_of_getElem? (i := 16) rfl
theorem kz_17 : (.methodLinkNest R_De 112 y_Rb_allowedFrom "RightDesk" : Cond) ∈ gNest := List.mem_of_getElem? (i := 17) rfl
theorem kz_18 : (.methodLinkNest R_De 39 y_Cb_at "RightDesk" : Cond) ∈ gNest := List.mem_of_getElem? (i := 18) rfl
theorem kz_19 : (.methodLinkNest R_De 68 y_Co_word "RightDesk" : Cond) ∈ gNest := List.mem_of_getElem? (i := 19) rfl
theorem kz_20 : (.methodLinkNest R_De 46 y_Rb_placeOf "RightDesk" : Cond) ∈ gNest := List.mem_of_getElem? (i := 20) rfl
theorem kz_21 : (.methodLinkNest R_De 86 y_Rb_decidedAt "RightDesk" : Cond) ∈ gNest := List.mem_of_getElem? (i := 21) rfl
theorem kz_22 : (.methodLinkNest R_De 96 y_Rb_turnedAt "RightDesk" : Cond) ∈ gNest := List.mem_of_getElem? (i := 22) rfl
theorem kz_23 : (.methodLinkNest R_De 99 y_Rb_idleRank "RightDesk" : Cond) ∈ gNest := List.mem_of_getElem? (i := 23) rfl
theorem kz_24 : (.methodLinkNest R_De 54 y_Rb_deciderOf "RightDesk" : Cond) ∈ gNest := List.mem_of_getElem? (i := 24) rfl
theorem kz_25 : (.fieldLinkNest R_De 58 "RightDesk$Rule" "number" "I" "RightDesk" : Cond) ∈ gNest := List.mem_of_getElem? (i := 25) rfl
theorem kz_26 : (.fieldLinkNest R_De 64 "RightDesk$Rule" "denies" "Z" "RightDesk" : Cond) ∈ gNest := List.mem_of_getElem? (i := 26) rfl
theorem kz_27 : (.methodLinkNest R_De 9 y_Cb_init "RightDesk" : Cond) ∈ gNest := List.mem_of_getElem? (i := 27) rfl
theorem kz_28 : (.methodLinkNest R_De 18 y_Rb_init "RightDesk" : Cond) ∈ gNest := List.mem_of_getElem? (i := 28) rfl
theorem kz_29 : (.methodLinkNest R_Cb 29 y_Co_init "RightDesk" : Cond) ∈ gNest := List.mem_of_getElem? (i := 29) rfl
theorem kz_30 : (.methodLinkNest R_Cb 36 y_Co_setWord "RightDesk" : Cond) ∈ gNest := List.mem_of_getElem? (i := 30) rfl
theorem kz_31 : (.methodLinkNest R_Rb 32 y_Ru_init "RightDesk" : Cond) ∈ gNest := List.mem_of_getElem? (i := 31) rfl
theorem kz_32 : (.methodLinkNest R_De 27 y_Cb_setMember "RightDesk" : Cond) ∈ gNest := List.mem_of_getElem? (i := 32) rfl
theorem kz_33 : (.methodLinkNest R_De 31 y_Cb_canBe "RightDesk" : Cond) ∈ gNest := List.mem_of_getElem? (i := 33) rfl
theorem kz_34 : (.methodLinkNest R_De 35 y_Cb_add "RightDesk" : Cond) ∈ gNest := List.mem_of_getElem? (i := 34) rfl
theorem kz_35 : (.methodLinkNest R_De 43 y_Rb_add "RightDesk" : Cond) ∈ gNest := List.mem_of_getElem? (i := 35) rfl
theorem kz_36 : (.methodLinkNest R_De 50 y_Rb_remove "RightDesk" : Cond) ∈ gNest := List.mem_of_getElem? (i := 36) rfl
theorem gNest_tbl : ∀ w ∈ gNest, w ∈ tables_1 := by
  intro w hw
  simp only [gNest, List.mem_cons, List.not_mem_nil, or_false] at hw
  rcases hw with rfl | rfl | rfl | rfl | rfl | rfl | rfl | rfl | rfl | rfl | rfl | rfl | rfl | rfl | rfl | rfl | rfl | rfl | rfl | rfl | rfl | rfl | rfl | rfl | rfl | rfl | rfl | rfl | rfl | rfl | rfl | rfl | rfl | rfl | rfl | rfl | rfl
  · exact List.mem_of_getElem? (i := 111) (by decide +kernel)
  · exact List.mem_of_getElem? (i := 75) (by decide +kernel)
  · exact List.mem_of_getElem? (i := 165) (by decide +kernel)
  · exact List.mem_of_getElem? (i := 224) (by decide +kernel)
  · exact List.mem_of_getElem? (i := 106) (by decide +kernel)
  · exact List.mem_of_getElem? (i := 136) (by decide +kernel)
  · exact List.mem_of_getElem? (i := 138) (by decide +kernel)
  · exact List.mem_of_getElem? (i := 140) (by decide +kernel)
  · exact List.mem_of_getElem? (i := 142) (by decide +kernel)
  · exact List.mem_of_getElem? (i := 94) (by decide +kernel)
  · exact List.mem_of_getElem? (i := 220) (by decide +kernel)
  · exact List.mem_of_getElem? (i := 177) (by decide +kernel)
  · exact List.mem_of_getElem? (i := 196) (by decide +kernel)
  · exact List.mem_of_getElem? (i := 174) (by decide +kernel)
  · exact List.mem_of_getElem? (i := 292) (by decide +kernel)
  · exact List.mem_of_getElem? (i := 28) (by decide +kernel)
  · exact List.mem_of_getElem? (i := 47) (by decide +kernel)
  · exact List.mem_of_getElem? (i := 270) (by decide +kernel)
  · exact List.mem_of_getElem? (i := 160) (by decide +kernel)
  · exact List.mem_of_getElem? (i := 229) (by decide +kernel)
  · exact List.mem_of_getElem? (i := 204) (by decide +kernel)
  · exact List.mem_of_getElem? (i := 252) (by decide +kernel)
  · exact List.mem_of_getElem? (i := 278) (by decide +kernel)
  · exact List.mem_of_getElem? (i := 288) (by decide +kernel)
  · exact List.mem_of_getElem? (i := 216) (by decide +kernel)
  · exact List.mem_of_getElem? (i := 178) (by decide +kernel)
  · exact List.mem_of_getElem? (i := 173) (by decide +kernel)
  · exact List.mem_of_getElem? (i := 19) (by decide +kernel)
  · exact List.mem_of_getElem? (i := 39) (by decide +kernel)
  · exact List.mem_of_getElem? (i := 131) (by decide +kernel)
  · exact List.mem_of_getElem? (i := 115) (by decide +kernel)
  · exact List.mem_of_getElem? (i := 167) (by decide +kernel)
  · exact List.mem_of_getElem? (i := 67) (by decide +kernel)
  · exact List.mem_of_getElem? (i := 123) (by decide +kernel)
  · exact List.mem_of_getElem? (i := 127) (by decide +kernel)
  · exact List.mem_of_getElem? (i := 161) (by decide +kernel)
  · exact List.mem_of_getElem? (i := 208) (by decide +kernel)
end
section
/-! The world: every cell at an address of a list L, with what f says of its address. Classes and array classes by one G. -/
/-- numbers of the classes and their slots, and the classes of the arrays: long, boolean, Condition[], Rule[], int -/
abbrev GG : Type := va_G × (Nat → ClassId)
def gTys (G : GG) : List (ClassId × FieldType) := [(G.2 0, .long), (G.2 1, .boolean), (G.2 2, .object "RightDesk$Condition"), (G.2 3, .object "RightDesk$Rule"), (G.2 4, .int)]
theorem gAW {c : Cond} (h : c ∈ AW) : GoodIn AW (c :: AW) := fun w hw => by
  have hw' : w ∈ AW := by
    rcases List.mem_cons.mp hw with e | h2
    · rw [e]; exact h
    · exact h2
  exact ⟨hw', good_of_word (List.mem_filter.mp hw').2⟩
theorem gLaw {c : Cond} (h : c ∈ AW) : GoodIn lw_tbl (c :: AW) := fun w hw => by
  have hw' : w ∈ AW := by
    rcases List.mem_cons.mp hw with e | h2
    · rw [e]; exact h
    · exact h2
  exact ⟨(List.mem_filter.mp hw').1, good_of_word (List.mem_filter.mp hw').2⟩
def isNest : Cond → Bool
  | .fieldLinkNest _ _ _ _ _ _ => true
  | .methodLinkNest _ _ _ _ => true
  | _ => false
theorem nest_warm {w : Cond} (h : isNest w = true) {s U : State} (hW : s.WarmedH U.vm) (hZ : va_Nw w s) : va_Nw w U := by
  cases w with
  | fieldLinkNest a i b n d k => exact va_Nw.warmF hW hZ
  | methodLinkNest a i x k => exact va_Nw.warmM hW hZ
  | _ => exact absurd h (by simp [isNest])
theorem nest_tab {w : Cond} (h : isNest w = true) : w.onTables = true := by
  cases w with
  | fieldLinkNest a i b n d k => rfl
  | methodLinkNest a i x k => rfl
  | _ => exact absurd h (by simp [isNest])
theorem gNest_all : ∀ w ∈ gNest, isNest w = true := by decide +kernel
def KK (G : GG) (U : State) : Prop := va_K G.1 vwCl (gTys G) U ∧ (∀ w ∈ gNest, va_Nw w U) ∧ va_AO "RightDesk$Condition" U ∧ va_AO "RightDesk$Rule" U
theorem KK.warm {G : GG} {s U : State} (hW : s.WarmedH U.vm) (h : KK G s) : KK G U :=
  ⟨va_K.moved hW.alike h.1, fun w hw => nest_warm (gNest_all w hw) hW (h.2.1 w hw), va_AO.moved hW.alike h.2.2.1, va_AO.moved hW.alike h.2.2.2⟩
theorem KK.call {G : GG} {U : State} {g : JFrame} {mk : MethodId} {a : Array Value} (h : KK G U) : KK G (U.calling g mk a) :=
  ⟨va_K.moved (u := U) (U := U.calling g mk a) (Vm.Alike.refl U.vm) h.1, fun w hw => va_Nw.same (nest_tab (gNest_all w hw)) (u := U) (U := U.calling g mk a) rfl (h.2.1 w hw), va_AO.moved (u := U) (U := U.calling g mk a) (Vm.Alike.refl U.vm) h.2.2.1, va_AO.moved (u := U) (U := U.calling g mk a) (Vm.Alike.refl U.vm) h.2.2.2⟩
/-- a contract's world -/
def PW (G : GG) (L : List Nat) (f : Nat → va_E) (U : State) : Prop := va_P G.1 vwCl (va_pl L f) U.heap ∧ KK G U
/-- what lies at an address -/
def Lk (L : List Nat) (f : Nat → va_E) (a : Nat) (e : va_E) : Prop := a ∈ L ∧ f a = e
theorem pl_o {D : va_G} {cl : List vw_C} {L : List Nat} {f : Nat → va_E} {H : Heap} {a : Nat} {e : va_E} (hP : va_P D cl (va_pl L f) H) (h : Lk L f a e) : va_P D cl [(a, e)] H := by
  obtain ⟨k, hk⟩ := va_pl_get (X := []) (f := f) h.1
  have hk : (va_pl L f)[k]? = some (a, f a) := hk
  rw [h.2] at hk
  intro j q hq
  match j, hq with
  | 0, hq => cases hq; exact hP k _ hk
  | j + 1, hq => simp at hq
theorem pw_preS {G : GG} {L : List Nat} {f : Nat → va_E} {H : Heap} {s : State} {As : List Value} (hP : va_P G.1 vwCl (va_pl L f) H) (hK : KK G s) : PreS s H (va_Pc As (PW G L f)) As :=
  ⟨fun a U g mk q => ⟨q.1, q.2.1, KK.call q.2.2⟩, fun U hU hW => ⟨rfl, by rw [hU]; exact hP, KK.warm hW hK⟩⟩
theorem pw_preV {G : GG} {L : List Nat} {f : Nat → va_E} {H : Heap} {s : State} {b ci : Nat} {C : String} {T : u_T} {N : Nat} {fs As : List Value} (hP : va_P G.1 vwCl (va_pl L f) H) (hK : KK G s) (h : Lk L f b (.inr (ci, fs))) (hc : vwCl[ci]? = some (C, T, N)) : PreV s H C b (va_Pc (.ref b :: As) (PW G L f)) As :=
  ⟨fun a U g mk q => ⟨q.1, q.2.1, KK.call q.2.2⟩, va_recv hK.1 (pl_o hP h) hc (q0 := 0) rfl, fun U hU hW => ⟨rfl, by rw [hU]; exact hP, KK.warm hW hK⟩⟩
/-- rooms by depth -/
def RM (d : Nat) : Room := { frames := d, cells := 0, slots := 0, locals := 32 * d }
section XV
variable {p : Program} {l : Launch} {e : Env} {R : Room} {s : State} {m : MethodId} {args : Array Value} {below : List Frame} {meth : Method} {c : Code} {H : Heap} {locs : List Loc} {cells slots : Nat} {Q : State → Prop}
variable {cc : ByteArray} {pc : Nat} {ls : Array Slot} {rest : List Value} {D : va_G} {cl : List vw_C} {a : Nat} {tys : List (ClassId × FieldType)} {ws : va_W}
theorem xv_I {x y : Int32} (h : x = y) (k : W p l e R s m args below meth c H locs cells slots Q (F0 m pc ls (.int y :: rest))) : W p l e R s m args below meth c H locs cells slots Q (F0 m pc ls (.int x :: rest)) := by rw [h]; exact k
theorem xv_J {x y : Int64} (h : x = y) (k : W p l e R s m args below meth c H locs cells slots Q (F0 m pc ls (.long y :: rest))) : W p l e R s m args below meth c H locs cells slots Q (F0 m pc ls (.long x :: rest)) := by rw [h]; exact k
theorem xv_Q {x y : Option Nat} (h : x = y) (k : W p l e R s m args below meth c H locs cells slots Q (F0 m pc ls (va_rf y :: rest))) : W p l e R s m args below meth c H locs cells slots Q (F0 m pc ls (va_rf x :: rest)) := by rw [h]; exact k
theorem xv_R {x : Option Nat} {a : Nat} (h : x = some a) (k : W p l e R s m args below meth c H locs cells slots Q (F0 m pc ls (.ref a :: rest))) : W p l e R s m args below meth c H locs cells slots Q (F0 m pc ls (va_rf x :: rest)) := by rw [h]; exact k
theorem xv_N {x : Option Nat} (h : x = none) (k : W p l e R s m args below meth c H locs cells slots Q (F0 m pc ls (.null :: rest))) : W p l e R s m args below meth c H locs cells slots Q (F0 m pc ls (va_rf x :: rest)) := by rw [h]; exact k
theorem xl_lald (hexec : p.tables.exec = Jvm.exec) (hb : c.code = cc) (hK : va_K D cl tys s) (hP : va_P D cl ws H) (q0 t0 : Nat) {cA : ClassId} {n : Nat} {f : Nat → Int64} (ha : ws[q0]? = some (a, .inl (cA, n, .inr (.inl f)))) (ht : tys[t0]? = some (cA, .long)) {i : Nat} (hi : i < n) (hn : n < 2 ^ 31) (hdg : decode cc pc = .ok (.laload, 1))
    (kk : W p l e R s m args below meth c H locs cells slots Q (F0 m (pc + 1) ls (.long (f i) :: rest))) : W p l e R s m args below meth c H locs cells slots Q (F0 m pc ls (.int (nI i) :: .ref a :: rest)) := by
  refine va_lald hexec hb hK hP q0 t0 ha ht (vp_in_nI hi hn) hdg ?_
  rw [nI_clamp (by omega)]
  exact kk
theorem xl_iald (hexec : p.tables.exec = Jvm.exec) (hb : c.code = cc) (hK : va_K D cl tys s) (hP : va_P D cl ws H) (q0 t0 : Nat) {cA : ClassId} {n : Nat} {f : Nat → Int32} (ha : ws[q0]? = some (a, .inl (cA, n, .inl f))) (ht : tys[t0]? = some (cA, .int)) {i : Nat} (hi : i < n) (hn : n < 2 ^ 31) (hdg : decode cc pc = .ok (.iaload, 1))
    (kk : W p l e R s m args below meth c H locs cells slots Q (F0 m (pc + 1) ls (.int (f i) :: rest))) : W p l e R s m args below meth c H locs cells slots Q (F0 m pc ls (.int (nI i) :: .ref a :: rest)) := by
  refine va_iald hexec hb hK hP q0 t0 ha ht (vp_in_nI hi hn) hdg ?_
  rw [nI_clamp (by omega)]
  exact kk
theorem xl_zald (hexec : p.tables.exec = Jvm.exec) (hb : c.code = cc) (hK : va_K D cl tys s) (hP : va_P D cl ws H) (q0 t0 : Nat) {cA : ClassId} {n : Nat} {f : Nat → Int32} (ha : ws[q0]? = some (a, .inl (cA, n, .inl f))) (ht : tys[t0]? = some (cA, .boolean)) {i : Nat} (hi : i < n) (hn : n < 2 ^ 31) (hdg : decode cc pc = .ok (.baload, 1))
    (kk : W p l e R s m args below meth c H locs cells slots Q (F0 m (pc + 1) ls (.int (f i) :: rest))) : W p l e R s m args below meth c H locs cells slots Q (F0 m pc ls (.int (nI i) :: .ref a :: rest)) := by
  refine va_zald hexec hb hK hP q0 t0 ha ht (vp_in_nI hi hn) hdg ?_
  rw [nI_clamp (by omega)]
  exact kk
theorem xl_aldq (hexec : p.tables.exec = Jvm.exec) (hb : c.code = cc) (hK : va_K D cl tys s) (hP : va_P D cl ws H) (q0 t0 : Nat) {cA : ClassId} {C : String} {n : Nat} {f : Nat → Option Nat} (ha : ws[q0]? = some (a, .inl (cA, n, .inr (.inr (.inr (.inr f)))))) (ht : tys[t0]? = some (cA, .object C)) {i : Nat} (hi : i < n) (hn : n < 2 ^ 31) (hdg : decode cc pc = .ok (.aaload, 1))
    (kk : W p l e R s m args below meth c H locs cells slots Q (F0 m (pc + 1) ls (va_rf (f i) :: rest))) : W p l e R s m args below meth c H locs cells slots Q (F0 m pc ls (.int (nI i) :: .ref a :: rest)) := by
  refine va_aldq hexec hb hK hP q0 t0 ha ht (vp_in_nI hi hn) hdg ?_
  rw [nI_clamp (by omega)]
  exact kk
end XV
/-! truth values, below -/
def bI (b : Bool) : Int32 := if b = true then nI 1 else nI 0
theorem bI_t : bI true = nI 1 := rfl
theorem bI_f : bI false = nI 0 := rfl
theorem bI_0 {b : Bool} : bI b = 0 ↔ b = false := by cases b <;> decide
theorem bI_nar (b : Bool) : narrow .boolean (.int (bI b)) = .int (bI b) := by cases b <;> rfl
theorem bI_inj {a b : Bool} (h : bI a = bI b) : a = b := by cases a <;> cases b <;> first | rfl | exact absurd h (by decide)
def blw (x y : Int32) : Bool := decide (¬ x < 0 ∧ x < y)
theorem blw_t {x y : Int32} (h0 : ¬ x < 0) (h : x < y) : blw x y = true := decide_eq_true ⟨h0, h⟩
theorem blw_f0 {x y : Int32} (h : x < 0) : blw x y = false := decide_eq_false (fun q => q.1 h)
theorem blw_f1 {x y : Int32} (h : ¬ x < y) : blw x y = false := decide_eq_false (fun q => h q.2)
theorem blw_of {x : Int32} {n : Nat} (hn : n < 2 ^ 31) (h : blw x (nI n) = true) : ∃ j, j < n ∧ x = nI j := by
  obtain ⟨h0, h1⟩ := of_decide_eq_true h
  obtain ⟨j, hj, e⟩ := nI_of h0
  rw [e] at h1
  exact ⟨j, (nI_ltI hj hn).mp h1, e⟩
theorem blw_nI {i n : Nat} (hn : n < 2 ^ 31) (hi : i < 2 ^ 31) : blw (nI i) (nI n) = decide (i < n) := by
  by_cases h : i < n
  · rw [blw_t (nI_pos hi) (nI_lt h hn), decide_eq_true h]
  · rw [blw_f1 (nI_nlt (by omega) hi), decide_eq_false h]
/-! Writes: what lies where, behind a store; new cells; calls that write. -/
theorem Lk.ne {L : List Nat} {f : Nat → va_E} {a b : Nat} {e1 e2 : va_E} (h1 : Lk L f a e1) (h2 : Lk L f b e2) (h : e1 ≠ e2) : a ≠ b := fun q => h (by rw [← h1.2, ← h2.2, q])
theorem Lk.neOA {L : List Nat} {f : Nat → va_E} {a b : Nat} {x : Nat × List Value} {y : ClassId × vp_A} (h1 : Lk L f a (.inr x)) (h2 : Lk L f b (.inl y)) : a ≠ b := h1.ne h2 (fun q => by cases q)
theorem Lk.neOO {L : List Nat} {f : Nat → va_E} {a b i j : Nat} {x y : List Value} (h1 : Lk L f a (.inr (i, x))) (h2 : Lk L f b (.inr (j, y))) (h : i ≠ j) : a ≠ b := h1.ne h2 (fun q => h (congrArg Prod.fst (Sum.inr.inj q)))
theorem Lk.neAA {L : List Nat} {f : Nat → va_E} {a b n1 n2 : Nat} {c1 c2 : ClassId} {x y : (Nat → Int32) ⊕ (Nat → Int64) ⊕ (Nat → UInt32) ⊕ (Nat → UInt64) ⊕ (Nat → Option Nat)} (h1 : Lk L f a (.inl (c1, n1, x))) (h2 : Lk L f b (.inl (c2, n2, y))) (h : n1 ≠ n2) : a ≠ b := h1.ne h2 (fun q => h (congrArg (fun z : ClassId × vp_A => z.2.1) (Sum.inl.inj q)))
theorem Lk.up {L : List Nat} {f : Nat → va_E} {a b : Nat} {e e' : va_E} (h : Lk L f a e) (hn : a ≠ b) : Lk L (va_up f b e') a e := ⟨h.1, by rw [va_up_ne f e' hn]; exact h.2⟩
theorem Lk.set {L : List Nat} {f : Nat → va_E} {b : Nat} {e e' : va_E} (h : Lk L f b e) : Lk L (va_up f b e') b e' := ⟨h.1, va_up_self f b e'⟩
theorem Lk.push {L : List Nat} {f : Nat → va_E} {a q : Nat} {e e' : va_E} (h : Lk L f a e) (hq : q ∉ L) : Lk (L ++ [q]) (va_up f q e') a e := ⟨List.mem_append_left _ h.1, by
  have hn : a ≠ q := fun z => hq (z ▸ h.1)
  rw [va_up_ne f e' hn]
  exact h.2⟩
theorem Lk.new {L : List Nat} {f : Nat → va_E} {q : Nat} {e : va_E} : Lk (L ++ [q]) (va_up f q e) q e := ⟨List.mem_append_right _ List.mem_cons_self, va_up_self f q e⟩
theorem nd_idx {L : List Nat} (hN : L.Nodup) {i j b : Nat} (hi : L[i]? = some b) (hj : L[j]? = some b) : i = j := by
  have hl := (List.getElem?_eq_some_iff.mp hi).1
  exact (List.getElem?_inj hl hN).mp (hi.trans hj.symm)
theorem pl_D {L : List Nat} {f : Nat → va_E} {A : Nat → Prop} (hN : L.Nodup) (hA : ∀ a ∈ L, A a) : va_D A (va_pl L f) := by
  refine ⟨fun i j x y hx hy e => ?_, fun k q hk => ?_⟩
  · simp only [va_pl, List.getElem?_map] at hx hy
    cases hi : L[i]? with
    | none => rw [hi] at hx; cases hx
    | some b =>
      cases hj : L[j]? with
      | none => rw [hj] at hy; cases hy
      | some d =>
        rw [hi] at hx
        rw [hj] at hy
        cases hx
        cases hy
        have e : b = d := e
        subst e
        exact nd_idx hN hi hj
  · simp only [va_pl, List.getElem?_map] at hk
    cases hi : L[k]? with
    | none => rw [hi] at hk; cases hk
    | some b =>
      rw [hi] at hk
      cases hk
      exact hA b (List.mem_of_getElem? hi)
theorem pl_nd {L : List Nat} {f : Nat → va_E} {A : Nat → Prop} (h : va_D A (va_pl L f)) : L.Nodup := by
  rw [List.nodup_iff_pairwise_ne, List.pairwise_iff_getElem]
  intro i j hi hj hij e
  have a1 : (va_pl L f)[i]? = some (L[i], f L[i]) := by simp [va_pl, List.getElem?_map, List.getElem?_eq_getElem hi]
  have a2 : (va_pl L f)[j]? = some (L[j], f L[j]) := by simp [va_pl, List.getElem?_map, List.getElem?_eq_getElem hj]
  have := h.1 i j _ _ a1 a2 e
  omega
theorem pl_at {L : List Nat} {f : Nat → va_E} {a : Nat} {e : va_E} (h : Lk L f a e) : ∃ k : Nat, (va_pl L f)[k]? = some (a, e) := by
  obtain ⟨k, hk⟩ := va_pl_get (X := []) (f := f) h.1
  exact ⟨k, by rw [← h.2]; exact hk⟩
theorem pl_set {A : Nat → Prop} {L : List Nat} {f : Nat → va_E} {a k : Nat} {e0 e : va_E} (hD : va_D A (va_pl L f)) (h : Lk L f a e0) (hk : (va_pl L f)[k]? = some (a, e0)) : (va_pl L f).set k (a, e) = va_pl L (va_up f a e) :=
  va_pl_set (X := []) hD h.1 (by rw [h.2]; exact hk)
section XW
variable {p : Program} {l : Launch} {e : Env} {R : Room} {s : State} {m : MethodId} {args : Array Value} {below : List Frame} {meth : Method} {c : Code} {H : Heap} {locs : List Loc} {cells slots : Nat} {Q : State → Prop}
variable {cc : ByteArray} {pc : Nat} {ls : Array Slot} {rest : List Value} {D : va_G} {cl : List vw_C} {A : Nat → Prop} {a : Nat} {tys : List (ClassId × FieldType)} {H0 : Heap} {L : List Nat} {f : Nat → va_E}
theorem xw_put (hexec : p.tables.exec = Jvm.exec) (hb : c.code = cc) {own ref C : String} {T : u_T} {N ci index : Nat} {Ts : List Cond} (hts : ∀ w ∈ Ts, w.before args s = true) (hin : ∀ w ∈ u_ws C T N, w ∈ Ts) (ty0 : Nat → FieldType) (hty : ∀ k, k < N → parseFieldDescriptor (T k).2.2.1 = some (ty0 k)) (hnm : ∀ a, a < N → ∀ b, b < N → a ≠ b → (T a).2.1 ≠ (T b).2.1) (hown : s.vm.findClass own = some m.cls) (hK : va_K D cl tys s) (hP : va_P D cl (va_pl L f) H) (hD : va_D A (va_pl L f)) (hS0 : va_S A H0 H locs) {fs : List Value} (h : Lk L f a (.inr (ci, fs))) (hc : cl[ci]? = some (C, T, N)) (k : Nat) (hk : k < N) (hlink : (Cond.fieldLink own index ref (T k).2.1 (T k).2.2.1).before args s = true) (hsame : ∀ x, s.fieldFound? (T k).1 (T k).2.1 (T k).2.2.1 = some x → s.fieldFound? ref (T k).2.1 (T k).2.2.1 = some x) (hfin : (T k).2.2.2 = false) {ty : FieldType} {v : Value} (hd : parseFieldDescriptor (T k).2.2.1 = some ty) (hn : narrow ty v = v) (hfit : fits ty v = true) (hl : k < fs.length)
    (hdg : decode cc pc = .ok (.putfield index, 3)) {fs' : List Value} (hfs : fs.set k v = fs') (kk : ∀ (H1 : Heap) (locs1 : List Loc), va_P D cl (va_pl L (va_up f a (.inr (ci, fs')))) H1 → va_D A (va_pl L (va_up f a (.inr (ci, fs')))) → va_S A H0 H1 locs1 → W p l e R s m args below meth c H1 locs1 cells slots Q (F0 m (pc + 3) ls rest)) : W p l e R s m args below meth c H locs cells slots Q (F0 m pc ls (v :: .ref a :: rest)) := by
  subst hfs
  obtain ⟨i, hi⟩ := pl_at h
  refine va_put hexec hb hts hin ty0 hty hnm hown hK hP hD hS0 i hi hc k hk hlink hsame hfin hd hn hfit hl hdg (fun H1 locs1 h1 h2 h3 => ?_)
  rw [pl_set hD h hi] at h1 h2
  exact kk H1 locs1 h1 h2 h3
theorem xw_putN (hexec : p.tables.exec = Jvm.exec) (hb : c.code = cc) {own ref C host : String} {T : u_T} {N ci index : Nat} {Ts : List Cond} (hts : ∀ w ∈ Ts, w.before args s = true) (hin : ∀ w ∈ u_ws C T N, w ∈ Ts) (ty0 : Nat → FieldType) (hty : ∀ k, k < N → parseFieldDescriptor (T k).2.2.1 = some (ty0 k)) (hnm : ∀ a, a < N → ∀ b, b < N → a ≠ b → (T a).2.1 ≠ (T b).2.1) (hown : s.vm.findClass own = some m.cls) (hK : va_K D cl tys s) (hP : va_P D cl (va_pl L f) H) (hD : va_D A (va_pl L f)) (hS0 : va_S A H0 H locs) {fs : List Value} (h : Lk L f a (.inr (ci, fs))) (hc : cl[ci]? = some (C, T, N)) (k : Nat) (hk : k < N) (hlink : (Cond.fieldLinkNest own index ref (T k).2.1 (T k).2.2.1 host).before args s = true) (hsame : ∀ x, s.fieldFound? (T k).1 (T k).2.1 (T k).2.2.1 = some x → s.fieldFound? ref (T k).2.1 (T k).2.2.1 = some x) (hfin : (T k).2.2.2 = false) {ty : FieldType} {v : Value} (hd : parseFieldDescriptor (T k).2.2.1 = some ty) (hn : narrow ty v = v) (hfit : fits ty v = true) (hl : k < fs.length)
    (hdg : decode cc pc = .ok (.putfield index, 3)) {fs' : List Value} (hfs : fs.set k v = fs') (kk : ∀ (H1 : Heap) (locs1 : List Loc), va_P D cl (va_pl L (va_up f a (.inr (ci, fs')))) H1 → va_D A (va_pl L (va_up f a (.inr (ci, fs')))) → va_S A H0 H1 locs1 → W p l e R s m args below meth c H1 locs1 cells slots Q (F0 m (pc + 3) ls rest)) : W p l e R s m args below meth c H locs cells slots Q (F0 m pc ls (v :: .ref a :: rest)) := by
  subst hfs
  obtain ⟨i, hi⟩ := pl_at h
  refine va_putN hexec hb hts hin ty0 hty hnm hown hK hP hD hS0 i hi hc k hk hlink hsame hfin hd hn hfit hl hdg (fun H1 locs1 h1 h2 h3 => ?_)
  rw [pl_set hD h hi] at h1 h2
  exact kk H1 locs1 h1 h2 h3
theorem xw_putF (hexec : p.tables.exec = Jvm.exec) (hb : c.code = cc) {own ref C : String} {T : u_T} {N ci index : Nat} {Ts : List Cond} (hts : ∀ w ∈ Ts, w.before args s = true) (hin : ∀ w ∈ u_ws C T N, w ∈ Ts) (ty0 : Nat → FieldType) (hty : ∀ k, k < N → parseFieldDescriptor (T k).2.2.1 = some (ty0 k)) (hnm : ∀ a, a < N → ∀ b, b < N → a ≠ b → (T a).2.1 ≠ (T b).2.1) (hown : s.vm.findClass own = some m.cls) (hK : va_K D cl tys s) (hP : va_P D cl (va_pl L f) H) (hD : va_D A (va_pl L f)) (hS0 : va_S A H0 H locs) {fs : List Value} (h : Lk L f a (.inr (ci, fs))) (hc : cl[ci]? = some (C, T, N)) (k : Nat) (hk : k < N) (hlink : (Cond.fieldLink own index ref (T k).2.1 (T k).2.2.1).before args s = true) (hsame : ∀ x, s.fieldFound? (T k).1 (T k).2.1 (T k).2.2.1 = some x → s.fieldFound? ref (T k).2.1 (T k).2.2.1 = some x) (hfin : (T k).2.2.2 = true) (hin2 : meth.name = "<init>") (hdecl : (T k).1 = own) {ty : FieldType} {v : Value} (hd : parseFieldDescriptor (T k).2.2.1 = some ty) (hn : narrow ty v = v) (hfit : fits ty v = true) (hl : k < fs.length)
    (hdg : decode cc pc = .ok (.putfield index, 3)) {fs' : List Value} (hfs : fs.set k v = fs') (kk : ∀ (H1 : Heap) (locs1 : List Loc), va_P D cl (va_pl L (va_up f a (.inr (ci, fs')))) H1 → va_D A (va_pl L (va_up f a (.inr (ci, fs')))) → va_S A H0 H1 locs1 → W p l e R s m args below meth c H1 locs1 cells slots Q (F0 m (pc + 3) ls rest)) : W p l e R s m args below meth c H locs cells slots Q (F0 m pc ls (v :: .ref a :: rest)) := by
  subst hfs
  obtain ⟨i, hi⟩ := pl_at h
  refine va_putF hexec hb hts hin ty0 hty hnm hown hK hP hD hS0 i hi hc k hk hlink hsame hfin hin2 hdecl hd hn hfit hl hdg (fun H1 locs1 h1 h2 h3 => ?_)
  rw [pl_set hD h hi] at h1 h2
  exact kk H1 locs1 h1 h2 h3
theorem xw_last (hexec : p.tables.exec = Jvm.exec) (hb : c.code = cc) (hK : va_K D cl tys s) (hP : va_P D cl (va_pl L f) H) (hD : va_D A (va_pl L f)) (hS : va_S A H0 H locs) (t0 : Nat) {cA : ClassId} {n : Nat} {g : Nat → Int64} (h : Lk L f a (.inl (cA, n, .inr (.inl g)))) (ht : tys[t0]? = some (cA, .long)) {i : Nat} {x : Int64} (hi : i < n) (hn : n < 2 ^ 31) (hdg : decode cc pc = .ok (.lastore, 1))
    (kk : ∀ (H1 : Heap) (locs1 : List Loc), va_P D cl (va_pl L (va_up f a (.inl (cA, n, .inr (.inl (vp_updL g i x)))))) H1 → va_D A (va_pl L (va_up f a (.inl (cA, n, .inr (.inl (vp_updL g i x)))))) → va_S A H0 H1 locs1 → W p l e R s m args below meth c H1 locs1 cells slots Q (F0 m (pc + 1) ls rest)) : W p l e R s m args below meth c H locs cells slots Q (F0 m pc ls (.long x :: .int (nI i) :: .ref a :: rest)) := by
  obtain ⟨j, hj⟩ := pl_at h
  refine va_last hexec hb hK hP hD hS j t0 hj ht (vp_in_nI hi hn) hdg (fun H1 locs1 h1 h2 h3 => ?_)
  rw [nI_clamp (by omega)] at h1 h2
  rw [pl_set hD h hj] at h1 h2
  exact kk H1 locs1 h1 h2 h3
theorem xw_zast (hexec : p.tables.exec = Jvm.exec) (hb : c.code = cc) (hK : va_K D cl tys s) (hP : va_P D cl (va_pl L f) H) (hD : va_D A (va_pl L f)) (hS : va_S A H0 H locs) (t0 : Nat) {cA : ClassId} {n : Nat} {g : Nat → Int32} (h : Lk L f a (.inl (cA, n, .inl g))) (ht : tys[t0]? = some (cA, .boolean)) {i : Nat} {x : Int32} (hi : i < n) (hn : n < 2 ^ 31) (hx : vp_nar .boolean x = x) (hdg : decode cc pc = .ok (.bastore, 1))
    (kk : ∀ (H1 : Heap) (locs1 : List Loc), va_P D cl (va_pl L (va_up f a (.inl (cA, n, .inl (upd g i x))))) H1 → va_D A (va_pl L (va_up f a (.inl (cA, n, .inl (upd g i x))))) → va_S A H0 H1 locs1 → W p l e R s m args below meth c H1 locs1 cells slots Q (F0 m (pc + 1) ls rest)) : W p l e R s m args below meth c H locs cells slots Q (F0 m pc ls (.int x :: .int (nI i) :: .ref a :: rest)) := by
  obtain ⟨j, hj⟩ := pl_at h
  refine va_zast hexec hb hK hP hD hS j t0 hj ht (vp_in_nI hi hn) hdg (fun H1 locs1 h1 h2 h3 => ?_)
  rw [nI_clamp (by omega), hx] at h1 h2
  rw [pl_set hD h hj] at h1 h2
  exact kk H1 locs1 h1 h2 h3
theorem xw_iast (hexec : p.tables.exec = Jvm.exec) (hb : c.code = cc) (hK : va_K D cl tys s) (hP : va_P D cl (va_pl L f) H) (hD : va_D A (va_pl L f)) (hS : va_S A H0 H locs) (t0 : Nat) {cA : ClassId} {n : Nat} {g : Nat → Int32} (h : Lk L f a (.inl (cA, n, .inl g))) (ht : tys[t0]? = some (cA, .int)) {i : Nat} {x : Int32} (hi : i < n) (hn : n < 2 ^ 31) (hdg : decode cc pc = .ok (.iastore, 1))
    (kk : ∀ (H1 : Heap) (locs1 : List Loc), va_P D cl (va_pl L (va_up f a (.inl (cA, n, .inl (upd g i x))))) H1 → va_D A (va_pl L (va_up f a (.inl (cA, n, .inl (upd g i x))))) → va_S A H0 H1 locs1 → W p l e R s m args below meth c H1 locs1 cells slots Q (F0 m (pc + 1) ls rest)) : W p l e R s m args below meth c H locs cells slots Q (F0 m pc ls (.int x :: .int (nI i) :: .ref a :: rest)) := by
  obtain ⟨j, hj⟩ := pl_at h
  refine va_iast hexec hb hK hP hD hS j t0 hj ht (vp_in_nI hi hn) hdg (fun H1 locs1 h1 h2 h3 => ?_)
  rw [nI_clamp (by omega)] at h1 h2
  rw [pl_set hD h hj] at h1 h2
  exact kk H1 locs1 h1 h2 h3
theorem xw_astq (hexec : p.tables.exec = Jvm.exec) (hb : c.code = cc) (hK : va_K D cl tys s) (hP : va_P D cl (va_pl L f) H) (hD : va_D A (va_pl L f)) (hS : va_S A H0 H locs) (t0 ci : Nat) {cA : ClassId} {r : vw_C} {n v : Nat} {vs : List Value} {g : Nat → Option Nat} (h : Lk L f a (.inl (cA, n, .inr (.inr (.inr (.inr g)))))) (ht : tys[t0]? = some (cA, .object r.1)) (hv : Lk L f v (.inr (ci, vs))) (hc : cl[ci]? = some r) {i : Nat} (hi : i < n) (hn : n < 2 ^ 31) (hdg : decode cc pc = .ok (.aastore, 1))
    (kk : ∀ (H1 : Heap) (locs1 : List Loc), va_P D cl (va_pl L (va_up f a (.inl (cA, n, .inr (.inr (.inr (.inr (va_up g i (some v))))))))) H1 → va_D A (va_pl L (va_up f a (.inl (cA, n, .inr (.inr (.inr (.inr (va_up g i (some v))))))))) → va_S A H0 H1 locs1 → W p l e R s m args below meth c H1 locs1 cells slots Q (F0 m (pc + 1) ls rest)) : W p l e R s m args below meth c H locs cells slots Q (F0 m pc ls (.ref v :: .int (nI i) :: .ref a :: rest)) := by
  obtain ⟨j, hj⟩ := pl_at h
  obtain ⟨jv, hjv⟩ := pl_at hv
  refine va_astq hexec hb hK hP hD hS j t0 jv ci hj ht hjv hc (vp_in_nI hi hn) hdg (fun H1 locs1 h1 h2 h3 => ?_)
  rw [nI_clamp (by omega)] at h1 h2
  rw [pl_set hD h hj] at h1 h2
  exact kk H1 locs1 h1 h2 h3
theorem xw_astqN (hexec : p.tables.exec = Jvm.exec) (hb : c.code = cc) (hK : va_K D cl tys s) (hP : va_P D cl (va_pl L f) H) (hD : va_D A (va_pl L f)) (hS : va_S A H0 H locs) (t0 : Nat) {cA : ClassId} {C : String} {n : Nat} {g : Nat → Option Nat} (h : Lk L f a (.inl (cA, n, .inr (.inr (.inr (.inr g)))))) (ht : tys[t0]? = some (cA, .object C)) {i : Nat} (hi : i < n) (hn : n < 2 ^ 31) (hdg : decode cc pc = .ok (.aastore, 1))
    (kk : ∀ (H1 : Heap) (locs1 : List Loc), va_P D cl (va_pl L (va_up f a (.inl (cA, n, .inr (.inr (.inr (.inr (va_up g i none)))))))) H1 → va_D A (va_pl L (va_up f a (.inl (cA, n, .inr (.inr (.inr (.inr (va_up g i none)))))))) → va_S A H0 H1 locs1 → W p l e R s m args below meth c H1 locs1 cells slots Q (F0 m (pc + 1) ls rest)) : W p l e R s m args below meth c H locs cells slots Q (F0 m pc ls (.null :: .int (nI i) :: .ref a :: rest)) := by
  obtain ⟨j, hj⟩ := pl_at h
  refine va_astqN hexec hb hK hP hD hS j t0 hj ht (vp_in_nI hi hn) hdg (fun H1 locs1 h1 h2 h3 => ?_)
  rw [nI_clamp (by omega)] at h1 h2
  rw [pl_set hD h hj] at h1 h2
  exact kk H1 locs1 h1 h2 h3
theorem pl_push {q : Nat} {e0 : va_E} (hD : va_D A (va_pl L f ++ [(q, e0)])) : q ∉ L ∧ va_pl L f ++ [(q, e0)] = va_pl (L ++ [q]) (va_up f q e0) := by
  have h := va_pl_fresh2 (X := []) hD
  exact ⟨h, va_pl_push h⟩
theorem xw_new (hexec : p.tables.exec = Jvm.exec) (hb : c.code = cc) {own C : String} {T : u_T} {N ci index : Nat} {Ts : List Cond} (hts : ∀ w ∈ Ts, w.before args s = true) (hin : ∀ w ∈ u_ws C T N, w ∈ Ts) (ty : Nat → FieldType) (hty : ∀ k, k < N → parseFieldDescriptor (T k).2.2.1 = some (ty k)) (hown : s.vm.findClass own = some m.cls) (hcl : (Cond.classLink own index C).before args s = true) (hinst : (Cond.instantiable C N).before args s = true) (hini : (Cond.initialized C).before args s = true)
    (hK : va_K D cl tys s) (hP : va_P D cl (va_pl L f) H) (hD : va_D A (va_pl L f)) (hS : va_S A H0 H locs) (hA : ∀ q, H0.size ≤ q → A q) (hc : cl[ci]? = some (C, T, N)) {fs : List Value} (hfs : ∀ j, j < N → defaultValue (ty j) = vp_V fs j) (hcells : cells + 1 ≤ R.cells) (hslots : slots + N ≤ R.slots) (hdg : decode cc pc = .ok (.new index, 3))
    (kk : ∀ (q : Nat) (H1 : Heap), q ∉ L → va_P D cl (va_pl (L ++ [q]) (va_up f q (.inr (ci, fs)))) H1 → va_D A (va_pl (L ++ [q]) (va_up f q (.inr (ci, fs)))) → va_S A H0 H1 locs →
      W p l e R s m args below meth c H1 locs (cells + 1) (slots + N) Q (F0 m (pc + 3) ls (.ref q :: rest))) : W p l e R s m args below meth c H locs cells slots Q (F0 m pc ls rest) := by
  refine va_new hexec hb hts hin ty hty hown hcl hinst hini hK hP hD hS hA hc hfs hcells hslots hdg (fun q H1 h1 h2 h3 => ?_)
  obtain ⟨hq, he⟩ := pl_push h2
  rw [he] at h1 h2
  exact kk q H1 hq h1 h2 h3
end XW
/-! New arrays; the start and the end of a method that writes. -/
theorem va_RA_fun {U : State} {cA cB : ClassId} {ty : FieldType} (h1 : va_RA U cA ty) (h2 : va_RA U cB ty) : cA = cB := by
  cases ty with
  | object C =>
    obtain ⟨_, _, _, _, _, a⟩ := h1
    obtain ⟨_, _, _, _, _, b⟩ := h2
    exact Option.some.inj (a.symm.trans b)
  | _ => exact Option.some.inj (Eq.trans (Eq.symm h1) h2)
section XN
variable {p : Program} {l : Launch} {e : Env} {R : Room} {s : State} {m : MethodId} {args : Array Value} {below : List Frame} {meth : Method} {c : Code} {H : Heap} {locs : List Loc} {cells slots : Nat} {Q : State → Prop}
variable {cc : ByteArray} {pc : Nat} {ls : Array Slot} {rest : List Value} {D : va_G} {cl : List vw_C} {A : Nat → Prop} {tys : List (ClassId × FieldType)} {H0 : Heap} {L : List Nat} {f : Nat → va_E}
theorem xw_newa (hexec : p.tables.exec = Jvm.exec) (hb : c.code = cc) {atype : ArrayType} (harr : (Cond.arrayClass (newarray.typeOf atype)).before args s = true) {ty : FieldType} (hty : newarray.typeOf atype = ty) (hK : va_K D cl tys s) (hP : va_P D cl (va_pl L f) H) (hD : va_D A (va_pl L f)) (hS : va_S A H0 H locs) (hA : ∀ q, H0.size ≤ q → A q)
    (t0 : Nat) {cA0 : ClassId} (ht : tys[t0]? = some (cA0, ty)) {n : Int32} {N' : Nat} {a0 : vp_A} (ha : ∀ cA : ClassId, vp_cell cA a0 = arrV cA N' (fun _ => defaultValue ty)) (hn : ¬ n < 0) (hN : n.toNatClampNeg = N') (hbytes : N' * componentBytes ty ≤ 536870912) (hcells : cells + 1 ≤ R.cells) (hslots : slots + N' ≤ R.slots) (hdg : decode cc pc = .ok (.newarray atype, 2))
    (kk : ∀ (q : Nat) (H1 : Heap), q ∉ L → va_P D cl (va_pl (L ++ [q]) (va_up f q (.inl (cA0, a0)))) H1 → va_D A (va_pl (L ++ [q]) (va_up f q (.inl (cA0, a0)))) → va_S A H0 H1 locs →
      W p l e R s m args below meth c H1 locs (cells + 1) (slots + N') Q (F0 m (pc + 2) ls (.ref q :: rest))) : W p l e R s m args below meth c H locs cells slots Q (F0 m pc ls (.int n :: rest)) := by
  refine va_newa hexec hb harr hty hK hP hD hS hA ha hn hN hbytes hcells hslots hdg (fun q cA H1 hK1 h1 h2 h3 => ?_)
  have e1 : cA = cA0 := va_RA_fun (hK1.2 tys.length (cA, ty) (by simp)).2 (hK.2 t0 _ ht).2
  subst e1
  obtain ⟨hq, he⟩ := pl_push h2
  rw [he] at h1 h2
  exact kk q H1 hq h1 h2 h3
theorem xw_newq (hexec : p.tables.exec = Jvm.exec) (hb : c.code = cc) {own C : String} {index : Nat} (hown : s.vm.findClass own = some m.cls) (hclink : (Cond.classLink own index C).before args s = true) (hover : va_AO C s) (hK : va_K D cl tys s) (hP : va_P D cl (va_pl L f) H) (hD : va_D A (va_pl L f)) (hS : va_S A H0 H locs) (hA : ∀ q, H0.size ≤ q → A q)
    (t0 : Nat) {cA0 : ClassId} (ht : tys[t0]? = some (cA0, .object C)) {n : Int32} {N' : Nat} (hn : ¬ n < 0) (hN : n.toNatClampNeg = N') (hbytes : N' * 4 ≤ 536870912) (hcells : cells + 1 ≤ R.cells) (hslots : slots + N' ≤ R.slots) (hdg : decode cc pc = .ok (.anewarray index, 3))
    (kk : ∀ (q : Nat) (H1 : Heap), q ∉ L → va_P D cl (va_pl (L ++ [q]) (va_up f q (.inl (cA0, N', .inr (.inr (.inr (.inr (fun _ => none)))))))) H1 → va_D A (va_pl (L ++ [q]) (va_up f q (.inl (cA0, N', .inr (.inr (.inr (.inr (fun _ => none)))))))) → va_S A H0 H1 locs →
      W p l e R s m args below meth c H1 locs (cells + 1) (slots + N') Q (F0 m (pc + 3) ls (.ref q :: rest))) : W p l e R s m args below meth c H locs cells slots Q (F0 m pc ls (.int n :: rest)) := by
  refine va_newq hexec hb hown hclink hover hK hP hD hS hA hn hN hbytes hcells hslots hdg (fun q cA H1 hK1 h1 h2 h3 => ?_)
  have e1 : cA = cA0 := va_RA_fun (hK1.2 tys.length (cA, .object C) (by simp)).2 (hK.2 t0 _ ht).2
  subst e1
  obtain ⟨hq, he⟩ := pl_push h2
  rw [he] at h1 h2
  exact kk q H1 hq h1 h2 h3
end XN
/-- what a method that writes may change -/
def Am (L : List Nat) (sz : Nat) : Nat → Prop := fun q => q ∈ L ∨ sz ≤ q
def PZ (G : GG) (L : List Nat) (f : Nat → va_E) (sz : Nat) (U : State) : Prop := U.heap.size = sz ∧ va_P G.1 vwCl (va_pl L f) U.heap ∧ KK G U
abbrev WU : Type := List Nat × (Nat → va_E)
def BZ (G : GG) (A : Nat → Prop) (u : WU) (t : State) : Prop := va_P G.1 vwCl (va_pl u.1 u.2) t.heap ∧ va_D A (va_pl u.1 u.2)
def RW (d mc ms : Nat) : Room := { frames := d, cells := mc, slots := ms, locals := 32 * d }
theorem am_free {A : Nat → Prop} {L : List Nat} {f : Nat → va_E} {H0 H : Heap} {locs : List Loc} (hD : va_D A (va_pl L f)) (hS : va_S A H0 H locs) (hA : ∀ q, H0.size ≤ q → A q) : ∀ q, Am L H.size q → A q := fun q h => by
  rcases h with h | h
  · obtain ⟨k, hk⟩ := va_pl_get (X := []) (f := f) h
    exact hD.2 k _ hk
  · exact hA q (Nat.le_trans hS.1 h)
theorem pz_preS {G : GG} {L : List Nat} {f : Nat → va_E} {H : Heap} {s : State} {As : List Value} (hP : va_P G.1 vwCl (va_pl L f) H) (hK : KK G s) : PreS s H (va_Pc As (PZ G L f H.size)) As :=
  ⟨fun a U g mk q => ⟨q.1, q.2.1, q.2.2.1, KK.call q.2.2.2⟩, fun U hU hW => ⟨rfl, by rw [hU], by rw [hU]; exact hP, KK.warm hW hK⟩⟩
theorem pz_preV {G : GG} {L : List Nat} {f : Nat → va_E} {H : Heap} {s : State} {b ci : Nat} {C : String} {T : u_T} {N : Nat} {fs As : List Value} (hP : va_P G.1 vwCl (va_pl L f) H) (hK : KK G s) (h : Lk L f b (.inr (ci, fs))) (hc : vwCl[ci]? = some (C, T, N)) : PreV s H C b (va_Pc (.ref b :: As) (PZ G L f H.size)) As :=
  ⟨fun a U g mk q => ⟨q.1, q.2.1, q.2.2.1, KK.call q.2.2.2⟩, va_recv hK.1 (pl_o hP h) hc (q0 := 0) rfl, fun U hU hW => ⟨rfl, by rw [hU], by rw [hU]; exact hP, KK.warm hW hK⟩⟩
theorem va_Dw {A B : Nat → Prop} {ws : va_W} (h : va_D A ws) (hAB : ∀ q, A q → B q) : va_D B ws := h.weaken (fun _ q _ hq => hAB q.1 hq)
/-- what lay there lies there still, but for the addresses in S -/
def Kp (S : Nat → Prop) (L : List Nat) (f : Nat → va_E) (u : WU) : Prop := ∀ a e, Lk L f a e → ¬ S a → Lk u.1 u.2 a e
theorem Kp.rf {S : Nat → Prop} {L : List Nat} {f : Nat → va_E} : Kp S L f (L, f) := fun _ _ h _ => h
theorem Kp.up {S : Nat → Prop} {L0 L : List Nat} {f0 f : Nat → va_E} {a : Nat} {e : va_E} (h : Kp S L0 f0 (L, f)) (ha : S a) : Kp S L0 f0 (L, va_up f a e) := fun b e2 hb hs => (h b e2 hb hs).up (fun q => hs (q ▸ ha))
theorem Kp.upF {S : Nat → Prop} {L0 L : List Nat} {f0 f : Nat → va_E} {a : Nat} {e : va_E} (h : Kp S L0 f0 (L, f)) (ha : a ∉ L0) : Kp S L0 f0 (L, va_up f a e) := fun b e2 hb hs => (h b e2 hb hs).up (fun q => ha (q ▸ hb.1))
theorem Kp.push {S : Nat → Prop} {L0 L : List Nat} {f0 f : Nat → va_E} {q : Nat} {e : va_E} (h : Kp S L0 f0 (L, f)) (hq : q ∉ L) : Kp S L0 f0 (L ++ [q], va_up f q e) := fun b e2 hb hs => (h b e2 hb hs).push hq
theorem Kp.call {S S2 : Nat → Prop} {L0 L : List Nat} {f0 f : Nat → va_E} {u : WU} (h : Kp S L0 f0 (L, f)) (h2 : Kp S2 L f u) (hs : ∀ a, a ∈ L0 → S2 a → S a) : Kp S L0 f0 u := fun b e2 hb hn => h2 b e2 (h b e2 hb hn) (fun q => hn (hs b hb.1 q))
/-- a fact kept over a step -/
theorem Kp.k {S : Nat → Prop} {L : List Nat} {f : Nat → va_E} {L' : List Nat} {f' : Nat → va_E} {a : Nat} {e : va_E} (h : Kp S L f (L', f')) (ha : Lk L f a e) (hs : ¬ S a) : Lk L' f' a e := h a e ha hs
theorem bI_fit (b : Bool) : fits .boolean (.int (bI b)) = true := by cases b <;> rfl
theorem bI_vp (b : Bool) : vp_nar .boolean (bI b) = bI b := by cases b <;> rfl
end
section
/-! Counting, bits of a long, the JDK's bit count as numbers, the lowest bits of a word. No machine here. -/
/-- how many k below n have p -/
def cnt (p : Nat → Bool) : Nat → Nat
  | 0 => 0
  | n + 1 => cnt p n + (if p n = true then 1 else 0)
theorem cnt_s (p : Nat → Bool) (n : Nat) : cnt p (n + 1) = cnt p n + (if p n = true then 1 else 0) := rfl
theorem cnt_t {p : Nat → Bool} {n : Nat} (h : p n = true) : cnt p (n + 1) = cnt p n + 1 := by rw [cnt_s, if_pos h]
theorem cnt_f {p : Nat → Bool} {n : Nat} (h : p n = false) : cnt p (n + 1) = cnt p n := by rw [cnt_s, h]; simp
theorem cnt_add (p : Nat → Bool) (a : Nat) : ∀ b, cnt p (a + b) = cnt p a + cnt (fun k => p (a + k)) b
  | 0 => by simp [cnt]
  | b + 1 => by
    show cnt p ((a + b) + 1) = _
    rw [cnt_s, cnt_s, cnt_add p a b]
    omega
theorem cnt_congr {p q : Nat → Bool} : ∀ {n : Nat}, (∀ k, k < n → p k = q k) → cnt p n = cnt q n
  | 0, _ => rfl
  | n + 1, h => by
    rw [cnt_s, cnt_s, cnt_congr (n := n) (fun k hk => h k (Nat.lt_succ_of_lt hk)), h n (Nat.lt_succ_self n)]
theorem cnt_le (p : Nat → Bool) : ∀ n, cnt p n ≤ n
  | 0 => Nat.le_refl 0
  | n + 1 => by
    rw [cnt_s]
    have h := cnt_le p n
    split <;> omega
theorem cnt_mono (p : Nat → Bool) {a b : Nat} (h : a ≤ b) : cnt p a ≤ cnt p b := by
  obtain ⟨c, rfl⟩ := Nat.exists_eq_add_of_le h
  rw [cnt_add]
  omega
theorem cnt_zero {p : Nat → Bool} {n : Nat} (h : ∀ k, k < n → p k = false) : cnt p n = 0 := by
  induction n with
  | zero => rfl
  | succ n ih => rw [cnt_f (h n (Nat.lt_succ_self n)), ih (fun k hk => h k (Nat.lt_succ_of_lt hk))]
/-- a count passes through every number below it -/
theorem cnt_hit {p : Nat → Bool} {i : Nat} : ∀ {n : Nat}, i < cnt p n → ∃ j, j < n ∧ p j = true ∧ cnt p j = i
  | 0, h => absurd h (Nat.not_lt_zero i)
  | n + 1, h => by
    by_cases hi : i < cnt p n
    · obtain ⟨j, h1, h2, h3⟩ := cnt_hit hi
      exact ⟨j, Nat.lt_succ_of_lt h1, h2, h3⟩
    · cases hp : p n with
      | false => rw [cnt_f hp] at h; exact absurd h hi
      | true =>
        rw [cnt_t hp] at h
        exact ⟨n, Nat.lt_succ_self n, hp, by omega⟩
/-- the one that has so many before it is one alone -/
theorem cnt_one {p : Nat → Bool} {a b : Nat} (ha : p a = true) (hb : p b = true) (h : cnt p a = cnt p b) : a = b := by
  rcases Nat.lt_trichotomy a b with q | q | q
  · have := cnt_mono p (show a + 1 ≤ b from q)
    rw [cnt_t ha] at this
    omega
  · exact q
  · have := cnt_mono p (show b + 1 ≤ a from q)
    rw [cnt_t hb] at this
    omega
theorem cnt_split (p : Nat → Bool) (m : Nat) : ∀ n, cnt p (m * n) = cnt (fun _ => false) 0 + (List.range n).foldl (fun s w => s + cnt (fun k => p (m * w + k)) m) 0
  | 0 => by simp [cnt]
  | n + 1 => by
    rw [Nat.mul_succ, cnt_add, cnt_split p m n, List.range_succ, List.foldl_append]
    simp [cnt]
/-! ### numbers by fields -/
def fsm (m : Nat) (g : Nat → Nat) : Nat → Nat
  | 0 => 0
  | n + 1 => 2 ^ (m * n) * g n + fsm m g n
theorem fsm_s (m : Nat) (g : Nat → Nat) (n : Nat) : fsm m g (n + 1) = 2 ^ (m * n) * g n + fsm m g n := rfl
theorem fsm_lt {m : Nat} {g : Nat → Nat} (hg : ∀ k, g k < 2 ^ m) : ∀ n, fsm m g n < 2 ^ (m * n)
  | 0 => by simp [fsm]
  | n + 1 => by
    have h := fsm_lt hg n
    have h2 : g n + 1 ≤ 2 ^ m := hg n
    have h3 : 2 ^ (m * n) * (g n + 1) ≤ 2 ^ (m * n) * 2 ^ m := Nat.mul_le_mul_left _ h2
    rw [fsm_s, Nat.mul_succ, Nat.pow_add]
    rw [Nat.mul_succ] at h3
    omega
theorem fsm_congr {m : Nat} {g h : Nat → Nat} : ∀ {n : Nat}, (∀ k, k < n → g k = h k) → fsm m g n = fsm m h n
  | 0, _ => rfl
  | n + 1, e => by rw [fsm_s, fsm_s, fsm_congr (n := n) (fun k hk => e k (Nat.lt_succ_of_lt hk)), e n (Nat.lt_succ_self n)]
theorem fsm_add (m : Nat) (g h : Nat → Nat) : ∀ n, fsm m (fun k => g k + h k) n = fsm m g n + fsm m h n
  | 0 => rfl
  | n + 1 => by rw [fsm_s, fsm_s, fsm_s, fsm_add m g h n, Nat.mul_add]; omega
theorem and_cat {s a b c d : Nat} (ha : a < 2 ^ s) (hc : c < 2 ^ s) : (2 ^ s * b + a) &&& (2 ^ s * d + c) = 2 ^ s * (b &&& d) + (a &&& c) := by
  apply Nat.eq_of_testBit_eq
  intro i
  have hac : a &&& c < 2 ^ s := Nat.lt_of_le_of_lt Nat.and_le_left ha
  rw [Nat.testBit_and, Nat.testBit_two_pow_mul_add _ ha, Nat.testBit_two_pow_mul_add _ hc, Nat.testBit_two_pow_mul_add _ hac]
  split <;> rw [Nat.testBit_and]
theorem fsm_and {m : Nat} {g h : Nat → Nat} (hg : ∀ k, g k < 2 ^ m) (hh : ∀ k, h k < 2 ^ m) : ∀ n, fsm m g n &&& fsm m h n = fsm m (fun k => g k &&& h k) n
  | 0 => by simp [fsm]
  | n + 1 => by rw [fsm_s, fsm_s, fsm_s, and_cat (fsm_lt hg n) (fsm_lt hh n), fsm_and hg hh n]
/-- the lowest field, and the others -/
theorem fsm_low (m : Nat) (g : Nat → Nat) : ∀ n, fsm m g (n + 1) = g 0 + 2 ^ m * fsm m (fun k => g (k + 1)) n
  | 0 => by simp [fsm]
  | n + 1 => by
    rw [fsm_s, fsm_low m g n, fsm_s m (fun k => g (k + 1)) n, Nat.mul_succ, Nat.pow_add, Nat.mul_add]
    rw [Nat.mul_comm (2 ^ (m * n)) (2 ^ m), Nat.mul_assoc]
    omega
theorem fsm_shr {m : Nat} {g : Nat → Nat} (h0 : g 0 < 2 ^ m) {n : Nat} (hz : g (n + 1) = 0) : fsm m g (n + 1) / 2 ^ m = fsm m (fun k => g (k + 1)) (n + 1) := by
  rw [fsm_low, fsm_s, Nat.add_mul_div_left _ _ (Nat.two_pow_pos m), Nat.div_eq_of_lt h0, hz]
  omega
/-- two fields make one -/
theorem fsm_pair (m : Nat) (g : Nat → Nat) : ∀ n, fsm m g (2 * n) = fsm (2 * m) (fun k => g (2 * k) + 2 ^ m * g (2 * k + 1)) n
  | 0 => rfl
  | n + 1 => by
    show fsm m g (2 * n + 1 + 1) = _
    rw [fsm_s, fsm_s, fsm_s, fsm_pair m g n, Nat.mul_succ m (2 * n), Nat.pow_add, Nat.mul_add, Nat.mul_assoc (2 ^ (m * (2 * n)))]
    rw [show 2 * m * n = m * (2 * n) by rw [Nat.mul_comm 2 m, Nat.mul_assoc]]
    omega
/-- a number by its bits -/
def bt1 (n k : Nat) : Nat := if n.testBit k = true then 1 else 0
theorem bt1_lt (n k : Nat) : bt1 n k < 2 := by unfold bt1; split <;> omega
theorem bt1_div (n k : Nat) : bt1 n k = n / 2 ^ k % 2 := by
  unfold bt1
  rw [Nat.testBit_eq_decide_div_mod_eq]
  by_cases h : n / 2 ^ k % 2 = 1
  · simp [h]
  · simp only [h, decide_false]
    have : n / 2 ^ k % 2 < 2 := Nat.mod_lt _ (by omega)
    simp
    omega
theorem fsm_bits (n : Nat) : ∀ k, n % 2 ^ k = fsm 1 (bt1 n) k
  | 0 => by simp [fsm, Nat.mod_one]
  | k + 1 => by rw [fsm_s, Nat.mod_pow_succ, fsm_bits n k, bt1_div, Nat.one_mul]; omega
theorem bt1_big {n k : Nat} (h : n < 2 ^ k) : bt1 n k = 0 := by
  unfold bt1
  rw [Nat.testBit_lt_two_pow h]
  simp
/-! ### Int64 as an unsigned number -/
def uN (x : Int64) : Nat := x.toUInt64.toNat
theorem uN_lt (x : Int64) : uN x < 18446744073709551616 := x.toUInt64.toNat_lt
theorem uN_inj {x y : Int64} (h : uN x = uN y) : x = y := congrArg UInt64.toInt64 (UInt64.toNat_inj.mp h)
theorem uN_add (x y : Int64) : uN (x + y) = (uN x + uN y) % 18446744073709551616 := by
  show (x.toUInt64 + y.toUInt64).toNat = _
  exact UInt64.toNat_add _ _
theorem uN_sub (x y : Int64) : uN (x - y) = (18446744073709551616 - uN y + uN x) % 18446744073709551616 := by
  show (x.toUInt64 - y.toUInt64).toNat = _
  exact UInt64.toNat_sub _ _
theorem uN_and (x y : Int64) : uN (x &&& y) = uN x &&& uN y := by
  show (x.toUInt64 &&& y.toUInt64).toNat = _
  exact UInt64.toNat_and _ _
theorem uN_or (x y : Int64) : uN (x ||| y) = uN x ||| uN y := by
  show (x.toUInt64 ||| y.toUInt64).toNat = _
  exact UInt64.toNat_or _ _
theorem uN_xor (x y : Int64) : uN (x ^^^ y) = uN x ^^^ uN y := by
  show (x.toUInt64 ^^^ y.toUInt64).toNat = _
  exact UInt64.toNat_xor _ _
theorem uN_shr (x : Int64) (s : UInt64) : uN (x.toUInt64 >>> s).toInt64 = uN x / 2 ^ (s.toNat % 64) := by
  show (x.toUInt64 >>> s).toNat = _
  rw [UInt64.toNat_shiftRight, Nat.shiftRight_eq_div_pow]
  rfl
theorem uN_neg (x : Int64) : uN (-x) = (18446744073709551616 - uN x) % 18446744073709551616 := by
  show (-x.toUInt64).toNat = _
  exact UInt64.toNat_neg _
/-- bit b of a word -/
def xB (x : Int64) (b : Nat) : Bool := (uN x).testBit b
theorem xB_and (x y : Int64) (b : Nat) : xB (x &&& y) b = (xB x b && xB y b) := by
  unfold xB
  rw [uN_and, Nat.testBit_and]
theorem xB_or (x y : Int64) (b : Nat) : xB (x ||| y) b = (xB x b || xB y b) := by
  unfold xB
  rw [uN_or, Nat.testBit_or]
theorem xB_xor (x y : Int64) (b : Nat) : xB (x ^^^ y) b = (xB x b ^^ xB y b) := by
  unfold xB
  rw [uN_xor, Nat.testBit_xor]
theorem xB_m1 : ∀ b, b < 64 → xB (-1) b = true := by decide +kernel
theorem xB_0 (b : Nat) : xB 0 b = false := by
  unfold xB
  rw [show uN 0 = 0 from rfl, Nat.zero_testBit]
theorem xB_not (x : Int64) {b : Nat} (hb : b < 64) : xB (x ^^^ (-1)) b = !xB x b := by
  rw [xB_xor, xB_m1 b hb]
  cases xB x b <;> rfl
theorem xB_big {x : Int64} {b : Nat} (h : 64 ≤ b) : xB x b = false :=
  Nat.testBit_lt_two_pow (Nat.lt_of_lt_of_le (uN_lt x) (show 2 ^ 64 ≤ 2 ^ b from Nat.pow_le_pow_right (by omega) h))
theorem xB_ext {x y : Int64} (h : ∀ b, b < 64 → xB x b = xB y b) : x = y := by
  apply uN_inj
  apply Nat.eq_of_testBit_eq
  intro b
  by_cases hb : b < 64
  · exact h b hb
  · exact (xB_big (x := x) (by omega)).trans (xB_big (x := y) (by omega)).symm
theorem xB_z {x : Int64} : x = 0 ↔ ∀ b, b < 64 → xB x b = false :=
  ⟨fun h b _ => by rw [h, xB_0], fun h => xB_ext (fun b hb => by rw [h b hb, xB_0])⟩
theorem xB_nz {x : Int64} (h : ¬ x = 0) : ∃ b, b < 64 ∧ xB x b = true := by
  apply Classical.byContradiction
  intro q
  apply h
  refine xB_z.mpr (fun b hb => ?_)
  cases hx : xB x b with
  | false => rfl
  | true => exact absurd ⟨b, hb, hx⟩ q
def pop (x : Int64) : Nat := cnt (xB x) 64
theorem pop_le (x : Int64) : pop x ≤ 64 := cnt_le _ _
/-! ### the bit count, by numbers -/
def hd1 (n : Nat) : Nat := n - (n / 2 &&& 6148914691236517205)
def hd2 (n : Nat) : Nat := (n &&& 3689348814741910323) + (n / 4 &&& 3689348814741910323)
def hd3 (n : Nat) : Nat := (n + n / 16) &&& 1085102592571150095
theorem hd1_ok {n : Nat} (h : n < 2 ^ 64) : n / 2 &&& 6148914691236517205 ≤ n ∧ hd1 n = fsm 2 (fun k => bt1 n (2 * k) + bt1 n (2 * k + 1)) 32 := by
  have e0 : n = fsm 1 (bt1 n) 64 := by rw [← fsm_bits, Nat.mod_eq_of_lt h]
  have e1 : n = fsm 2 (fun k => bt1 n (2 * k) + 2 * bt1 n (2 * k + 1)) 32 := by
    have := fsm_pair 1 (bt1 n) 32
    rw [← e0] at this
    exact this
  have e2 : n / 2 = fsm 1 (fun k => bt1 n (k + 1)) 64 := by
    have := fsm_shr (m := 1) (g := bt1 n) (bt1_lt n 0) (n := 63) (bt1_big h)
    rw [← e0] at this
    exact this
  have e3 : (6148914691236517205 : Nat) = fsm 1 (fun k => if k % 2 = 0 then 1 else 0) 64 := by decide +kernel
  have e4 : n / 2 &&& 6148914691236517205 = fsm 2 (fun k => bt1 n (2 * k + 1)) 32 := by
    rw [e2, e3, fsm_and (fun k => bt1_lt n (k + 1)) (fun k => by split <;> omega), show (64 : Nat) = 2 * 32 from rfl, fsm_pair]
    apply fsm_congr
    intro k _
    have b1 := bt1_lt n (2 * k + 1)
    rw [if_pos (by omega), if_neg (by omega)]
    have : bt1 n (2 * k + 1) = 0 ∨ bt1 n (2 * k + 1) = 1 := by omega
    rcases this with q | q <;> rw [q] <;> simp
  have e5 : n = fsm 2 (fun k => bt1 n (2 * k) + bt1 n (2 * k + 1)) 32 + fsm 2 (fun k => bt1 n (2 * k + 1)) 32 := by
    rw [← fsm_add]
    refine e1.trans (fsm_congr (fun k _ => ?_))
    omega
  unfold hd1
  rw [e4]
  constructor <;> omega
/-- every other field is kept -/
theorem fsm_even {m : Nat} {g : Nat → Nat} (hg : ∀ k, g k < 2 ^ m) (n : Nat) : fsm m g (2 * n) &&& fsm m (fun k => if k % 2 = 0 then 2 ^ m - 1 else 0) (2 * n) = fsm (2 * m) (fun k => g (2 * k)) n := by
  have hp := Nat.two_pow_pos m
  rw [fsm_and hg (fun k => by split <;> omega), fsm_pair]
  apply fsm_congr
  intro k _
  rw [if_pos (by omega), if_neg (by omega), Nat.and_two_pow_sub_one_eq_mod, Nat.mod_eq_of_lt (hg _), Nat.and_zero]
  omega
theorem hd2_ok {g : Nat → Nat} (hg : ∀ k, g k ≤ 2) (hz : ∀ k, 32 ≤ k → g k = 0) : hd2 (fsm 2 g 32) = fsm 4 (fun k => g (2 * k) + g (2 * k + 1)) 16 := by
  have hg4 : ∀ k, g k < 2 ^ 2 := fun k => by have := hg k; omega
  have e3 : (3689348814741910323 : Nat) = fsm 2 (fun k => if k % 2 = 0 then 2 ^ 2 - 1 else 0) (2 * 16) := by decide +kernel
  have e1 := fsm_even hg4 16
  have e2 : fsm 2 g 32 / 4 = fsm 2 (fun k => g (k + 1)) 32 := fsm_shr (m := 2) (g := g) (hg4 0) (n := 31) (hz 32 (by omega))
  have e4 := fsm_even (m := 2) (g := fun k => g (k + 1)) (fun k => hg4 _) 16
  unfold hd2
  rw [e2, e3, show (32 : Nat) = 2 * 16 from rfl, e1, e4, ← fsm_add]
theorem hd3_ok {g : Nat → Nat} (hg : ∀ k, g k ≤ 4) (hz : ∀ k, 16 ≤ k → g k = 0) : fsm 4 g 16 + fsm 4 g 16 / 16 < 2 ^ 64 ∧ hd3 (fsm 4 g 16) = fsm 8 (fun k => g (2 * k) + g (2 * k + 1)) 8 := by
  have hg4 : ∀ k, g k < 2 ^ 4 := fun k => by have := hg k; omega
  have e2 : fsm 4 g 16 / 16 = fsm 4 (fun k => g (k + 1)) 16 := fsm_shr (m := 4) (g := g) (hg4 0) (n := 15) (hz 16 (by omega))
  have e5 : fsm 4 g 16 + fsm 4 g 16 / 16 = fsm 4 (fun k => g k + g (k + 1)) 16 := by rw [e2, ← fsm_add]
  have hs : ∀ k, g k + g (k + 1) < 2 ^ 4 := fun k => by have := hg k; have := hg (k + 1); omega
  have e3 : (1085102592571150095 : Nat) = fsm 4 (fun k => if k % 2 = 0 then 2 ^ 4 - 1 else 0) (2 * 8) := by decide +kernel
  have e1 := fsm_even (m := 4) (g := fun k => g k + g (k + 1)) hs 8
  unfold hd3
  rw [e5]
  refine ⟨fsm_lt hs 16, ?_⟩
  rw [e3, show (16 : Nat) = 2 * 8 from rfl, e1]
/-- a shift by whole fields -/
theorem fsm_shrs {m : Nat} {g : Nat → Nat} (hg : ∀ k, g k < 2 ^ m) {n : Nat} (hz : ∀ k, n ≤ k → g k = 0) : ∀ j, fsm m g n / 2 ^ (m * j) = fsm m (fun k => g (k + j)) n
  | 0 => by simp
  | j + 1 => by
    rw [Nat.mul_succ, Nat.pow_add, ← Nat.div_div_eq_div_mul, fsm_shrs hg hz j]
    cases n with
    | zero => simp [fsm]
    | succ n =>
      rw [fsm_shr (g := fun k => g (k + j)) (hg _) (hz _ (by omega))]
      apply fsm_congr
      intro k _
      rw [show k + 1 + j = k + (j + 1) by omega]
theorem hd_end {g : Nat → Nat} (hg : ∀ k, g k ≤ 8) (hz : ∀ k, 8 ≤ k → g k = 0) :
    let a := fsm 8 g 8
    let b := a + a / 256
    let c := b + b / 65536
    let d := c + c / 4294967296
    b < 2 ^ 64 ∧ c < 2 ^ 64 ∧ d < 2 ^ 64 ∧ d % 128 = g 0 + g 1 + g 2 + g 3 + g 4 + g 5 + g 6 + g 7 := by
  intro a b c d
  have h8 : ∀ k, g k < 2 ^ 8 := fun k => by have := hg k; omega
  have eb : b = fsm 8 (fun k => g k + g (k + 1)) 8 := by
    show fsm 8 g 8 + fsm 8 g 8 / 2 ^ (8 * 1) = _
    rw [fsm_shrs h8 hz 1, ← fsm_add]
  have hb8 : ∀ k, g k + g (k + 1) < 2 ^ 8 := fun k => by have := hg k; have := hg (k + 1); omega
  have hbz : ∀ k, 8 ≤ k → g k + g (k + 1) = 0 := fun k hk => by rw [hz k hk, hz (k + 1) (by omega)]
  have ec : c = fsm 8 (fun k => (g k + g (k + 1)) + (g (k + 2) + g (k + 2 + 1))) 8 := by
    show b + b / 2 ^ (8 * 2) = _
    rw [eb, fsm_shrs (g := fun k => g k + g (k + 1)) hb8 hbz 2, ← fsm_add]
  have hc8 : ∀ k, (g k + g (k + 1)) + (g (k + 2) + g (k + 2 + 1)) < 2 ^ 8 := fun k => by
    have := hg k; have := hg (k + 1); have := hg (k + 2); have := hg (k + 2 + 1); omega
  have hcz : ∀ k, 8 ≤ k → (g k + g (k + 1)) + (g (k + 2) + g (k + 2 + 1)) = 0 := fun k hk => by
    rw [hz k hk, hz (k + 1) (by omega), hz (k + 2) (by omega), hz (k + 2 + 1) (by omega)]
  have ed : d = fsm 8 (fun k => ((g k + g (k + 1)) + (g (k + 2) + g (k + 2 + 1))) + ((g (k + 4) + g (k + 4 + 1)) + (g (k + 4 + 2) + g (k + 4 + 2 + 1)))) 8 := by
    show c + c / 2 ^ (8 * 4) = _
    rw [ec, fsm_shrs (g := fun k => (g k + g (k + 1)) + (g (k + 2) + g (k + 2 + 1))) hc8 hcz 4, ← fsm_add]
  have hd8 : ∀ k, ((g k + g (k + 1)) + (g (k + 2) + g (k + 2 + 1))) + ((g (k + 4) + g (k + 4 + 1)) + (g (k + 4 + 2) + g (k + 4 + 2 + 1))) < 2 ^ 8 := fun k => by
    have := hg k; have := hg (k + 1); have := hg (k + 2); have := hg (k + 2 + 1); have := hg (k + 4); have := hg (k + 4 + 1); have := hg (k + 4 + 2); have := hg (k + 4 + 2 + 1); omega
  refine ⟨by rw [eb]; exact fsm_lt hb8 8, by rw [ec]; exact fsm_lt hc8 8, by rw [ed]; exact fsm_lt hd8 8, ?_⟩
  have el := fsm_low 8 (fun k => ((g k + g (k + 1)) + (g (k + 2) + g (k + 2 + 1))) + ((g (k + 4) + g (k + 4 + 1)) + (g (k + 4 + 2) + g (k + 4 + 2 + 1)))) 7
  rw [ed, el]
  have := hg 0; have := hg 1; have := hg 2; have := hg 3; have := hg 4; have := hg 5; have := hg 6; have := hg 7
  have e0 : ((g 0 + g (0 + 1)) + (g (0 + 2) + g (0 + 2 + 1))) + ((g (0 + 4) + g (0 + 4 + 1)) + (g (0 + 4 + 2) + g (0 + 4 + 2 + 1))) = g 0 + g 1 + g 2 + g 3 + g 4 + g 5 + g 6 + g 7 := by
    simp only [Nat.zero_add, Nat.reduceAdd]
    omega
  rw [e0]
  generalize fsm 8 _ 7 = z
  have hy : g 0 + g 1 + g 2 + g 3 + g 4 + g 5 + g 6 + g 7 ≤ 64 := by omega
  generalize g 0 + g 1 + g 2 + g 3 + g 4 + g 5 + g 6 + g 7 = y at hy ⊢
  omega
/-- the whole: what the JDK's bit count comes to -/
def hdB (n : Nat) : Nat := hd3 (hd2 (hd1 n))
theorem cnt8 (n a : Nat) : cnt (fun k => n.testBit (a + k)) 8 = bt1 n a + bt1 n (a + 1) + bt1 n (a + 2) + bt1 n (a + 3) + bt1 n (a + 4) + bt1 n (a + 5) + bt1 n (a + 6) + bt1 n (a + 7) := by
  show 0 + bt1 n (a + 0) + bt1 n (a + 1) + bt1 n (a + 2) + bt1 n (a + 3) + bt1 n (a + 4) + bt1 n (a + 5) + bt1 n (a + 6) + bt1 n (a + 7) = _
  rw [Nat.zero_add, Nat.add_zero]
theorem hd_pop {n : Nat} (h : n < 2 ^ 64) :
    let a := hdB n
    let b := a + a / 256
    let c := b + b / 65536
    let d := c + c / 4294967296
    b < 2 ^ 64 ∧ c < 2 ^ 64 ∧ d < 2 ^ 64 ∧ d % 128 = cnt n.testBit 64 := by
  have z : ∀ k, 64 ≤ k → bt1 n k = 0 := fun k hk => bt1_big (Nat.lt_of_lt_of_le h (Nat.pow_le_pow_right (by omega) hk))
  have l1 : ∀ k, bt1 n k ≤ 1 := fun k => by have := bt1_lt n k; omega
  have e1 := (hd1_ok h).2
  have e2 := hd2_ok (g := fun k => bt1 n (2 * k) + bt1 n (2 * k + 1)) (fun k => by have := l1 (2 * k); have := l1 (2 * k + 1); omega) (fun k hk => by rw [z (2 * k) (by omega), z (2 * k + 1) (by omega)])
  have e3 := hd3_ok (g := fun k => (bt1 n (2 * (2 * k)) + bt1 n (2 * (2 * k) + 1)) + (bt1 n (2 * (2 * k + 1)) + bt1 n (2 * (2 * k + 1) + 1)))
    (fun k => by have := l1 (2 * (2 * k)); have := l1 (2 * (2 * k) + 1); have := l1 (2 * (2 * k + 1)); have := l1 (2 * (2 * k + 1) + 1); omega)
    (fun k hk => by rw [z (2 * (2 * k)) (by omega), z (2 * (2 * k) + 1) (by omega), z (2 * (2 * k + 1)) (by omega), z (2 * (2 * k + 1) + 1) (by omega)])
  have e4 := hd_end (g := fun k => ((bt1 n (2 * (2 * (2 * k))) + bt1 n (2 * (2 * (2 * k)) + 1)) + (bt1 n (2 * (2 * (2 * k) + 1)) + bt1 n (2 * (2 * (2 * k) + 1) + 1))) + ((bt1 n (2 * (2 * (2 * k + 1))) + bt1 n (2 * (2 * (2 * k + 1)) + 1)) + (bt1 n (2 * (2 * (2 * k + 1) + 1)) + bt1 n (2 * (2 * (2 * k + 1) + 1) + 1))))
    (fun k => by have := l1 (2 * (2 * (2 * k))); have := l1 (2 * (2 * (2 * k)) + 1); have := l1 (2 * (2 * (2 * k) + 1)); have := l1 (2 * (2 * (2 * k) + 1) + 1); have := l1 (2 * (2 * (2 * k + 1))); have := l1 (2 * (2 * (2 * k + 1)) + 1); have := l1 (2 * (2 * (2 * k + 1) + 1)); have := l1 (2 * (2 * (2 * k + 1) + 1) + 1); omega)
    (fun k hk => by rw [z (2 * (2 * (2 * k))) (by omega), z (2 * (2 * (2 * k)) + 1) (by omega), z (2 * (2 * (2 * k) + 1)) (by omega), z (2 * (2 * (2 * k) + 1) + 1) (by omega), z (2 * (2 * (2 * k + 1))) (by omega), z (2 * (2 * (2 * k + 1)) + 1) (by omega), z (2 * (2 * (2 * k + 1) + 1)) (by omega), z (2 * (2 * (2 * k + 1) + 1) + 1) (by omega)])
  have ea : hdB n = fsm 8 (fun k => ((bt1 n (2 * (2 * (2 * k))) + bt1 n (2 * (2 * (2 * k)) + 1)) + (bt1 n (2 * (2 * (2 * k) + 1)) + bt1 n (2 * (2 * (2 * k) + 1) + 1))) + ((bt1 n (2 * (2 * (2 * k + 1))) + bt1 n (2 * (2 * (2 * k + 1)) + 1)) + (bt1 n (2 * (2 * (2 * k + 1) + 1)) + bt1 n (2 * (2 * (2 * k + 1) + 1) + 1)))) 8 := by
    unfold hdB
    rw [e1, e2, e3.2]
  rw [ea]
  refine ⟨e4.1, e4.2.1, e4.2.2.1, e4.2.2.2.trans ?_⟩
  have a1 : cnt n.testBit 64 = cnt n.testBit 56 + cnt (fun k => n.testBit (56 + k)) 8 := cnt_add n.testBit 56 8
  have a2 : cnt n.testBit 56 = cnt n.testBit 48 + cnt (fun k => n.testBit (48 + k)) 8 := cnt_add n.testBit 48 8
  have a3 : cnt n.testBit 48 = cnt n.testBit 40 + cnt (fun k => n.testBit (40 + k)) 8 := cnt_add n.testBit 40 8
  have a4 : cnt n.testBit 40 = cnt n.testBit 32 + cnt (fun k => n.testBit (32 + k)) 8 := cnt_add n.testBit 32 8
  have a5 : cnt n.testBit 32 = cnt n.testBit 24 + cnt (fun k => n.testBit (24 + k)) 8 := cnt_add n.testBit 24 8
  have a6 : cnt n.testBit 24 = cnt n.testBit 16 + cnt (fun k => n.testBit (16 + k)) 8 := cnt_add n.testBit 16 8
  have a7 : cnt n.testBit 16 = cnt n.testBit 8 + cnt (fun k => n.testBit (8 + k)) 8 := cnt_add n.testBit 8 8
  have a8 : cnt n.testBit 8 = 0 + cnt (fun k => n.testBit (0 + k)) 8 := cnt_add n.testBit 0 8
  rw [cnt8] at a1 a2 a3 a4 a5 a6 a7 a8
  simp only [Nat.reduceMul, Nat.reduceAdd, Nat.zero_add] at a1 a2 a3 a4 a5 a6 a7 a8 ⊢
  omega
/-! ### the lowest bits of a word -/
theorem low_form {n t : Nat} (h0 : ∀ j, j < t → n.testBit j = false) (h1 : n.testBit t = true) : ∃ u, n = 2 ^ (t + 1) * u + 2 ^ t := by
  have hm : n % 2 ^ t = 0 := by
    apply Nat.eq_of_testBit_eq
    intro i
    rw [Nat.testBit_mod_two_pow, Nat.zero_testBit]
    by_cases hi : i < t
    · rw [h0 i hi]; simp
    · simp [hi]
  have h2 : n / 2 ^ t % 2 = 1 := by
    rw [Nat.testBit_eq_decide_div_mod_eq] at h1
    exact of_decide_eq_true h1
  refine ⟨n / 2 ^ t / 2, ?_⟩
  have e1 : n = 2 ^ t * (n / 2 ^ t) + n % 2 ^ t := (Nat.div_add_mod n (2 ^ t)).symm
  have e2 : n / 2 ^ t = 2 * (n / 2 ^ t / 2) + 1 := by omega
  generalize n / 2 ^ t / 2 = u at e2
  rw [hm, Nat.add_zero, e2] at e1
  rw [e1, Nat.pow_succ, Nat.mul_add, Nat.mul_one, Nat.mul_assoc]
/-- a word that isn't 0 has a lowest bit -/
theorem xB_low {x : Int64} (h : ¬ x = 0) : ∃ t, t < 64 ∧ xB x t = true ∧ ∀ j, j < t → xB x j = false := by
  obtain ⟨b, hb, hx⟩ := xB_nz h
  obtain ⟨t, ht, hm⟩ := pk_least (fun k => xB x k = true) ⟨b, hx⟩
  refine ⟨t, ?_, ht, fun j hj => ?_⟩
  · rcases Nat.lt_or_ge t 64 with q | q
    · exact q
    · rw [xB_big q] at ht; cases ht
  · cases hc : xB x j with
    | false => rfl
    | true => exact absurd hc (hm j hj)
theorem uN_one : uN 1 = 1 := rfl
/-- without its lowest bit -/
theorem xB_clr {x : Int64} {t : Nat} (ht : t < 64) (h1 : xB x t = true) (h0 : ∀ j, j < t → xB x j = false) (j : Nat) : xB (x &&& (x - 1)) j = (xB x j && decide (j ≠ t)) := by
  obtain ⟨u, hu⟩ := low_form (n := uN x) h0 h1
  have hp := Nat.two_pow_pos t
  have hlt := uN_lt x
  have hs : uN (x - 1) = 2 ^ (t + 1) * u + (2 ^ t - 1) := by
    rw [uN_sub, uN_one]
    have : uN x ≥ 1 := by omega
    omega
  have ha : uN (x &&& (x - 1)) = 2 ^ (t + 1) * u + 0 := by
    rw [uN_and, hs]
    conv => lhs; lhs; rw [hu]
    rw [and_cat (by rw [Nat.pow_succ]; omega) (by rw [Nat.pow_succ]; omega), Nat.and_self, Nat.and_two_pow_sub_one_eq_mod, Nat.mod_self]
  unfold xB
  rw [ha, Nat.testBit_two_pow_mul_add _ (Nat.two_pow_pos _)]
  by_cases hj : j < t + 1
  · rw [if_pos hj, Nat.zero_testBit]
    by_cases hj2 : j = t
    · simp [hj2]
    · have : (uN x).testBit j = false := h0 j (by omega)
      rw [this]
      rfl
  · rw [if_neg hj]
    have e : (uN x).testBit j = u.testBit (j - (t + 1)) := by
      conv => lhs; rw [hu]
      rw [Nat.testBit_two_pow_mul_add _ (by rw [Nat.pow_succ]; omega), if_neg hj]
    rw [e]
    have : decide (j ≠ t) = true := decide_eq_true (by omega)
    rw [this, Bool.and_true]
/-- the lowest bit alone, less one: the bits below it -/
theorem pop_low {x : Int64} {t : Nat} (ht : t < 64) (h1 : xB x t = true) (h0 : ∀ j, j < t → xB x j = false) : pop ((x &&& (-x)) - 1) = t := by
  obtain ⟨u, hu⟩ := low_form (n := uN x) h0 h1
  have hp := Nat.two_pow_pos t
  have hlt := uN_lt x
  have hpow : (18446744073709551616 : Nat) = 2 ^ (t + 1) * 2 ^ (63 - t) := by
    rw [← Nat.pow_add, show t + 1 + (63 - t) = 64 by omega]
  have hu2 : u < 2 ^ (63 - t) := by
    rcases Nat.lt_or_ge u (2 ^ (63 - t)) with q | q
    · exact q
    · have := Nat.mul_le_mul_left (2 ^ (t + 1)) q
      omega
  have hn : uN (-x) = 2 ^ (t + 1) * (2 ^ (63 - t) - (u + 1)) + 2 ^ t := by
    rw [uN_neg, Nat.mod_eq_of_lt (by omega), Nat.mul_sub, hpow, Nat.mul_succ]
    have : 2 ^ (t + 1) * u + 2 ^ (t + 1) ≤ 2 ^ (t + 1) * 2 ^ (63 - t) := by
      rw [← Nat.mul_succ]
      exact Nat.mul_le_mul_left _ hu2
    have e2 : 2 ^ (t + 1) = 2 * 2 ^ t := by rw [Nat.pow_succ, Nat.mul_comm]
    omega
  have ha : uN (x &&& (-x)) = 2 ^ t := by
    rw [uN_and, hn]
    conv => lhs; lhs; rw [hu]
    rw [and_cat (by rw [Nat.pow_succ]; omega) (by rw [Nat.pow_succ]; omega), Nat.and_self]
    have : u &&& (2 ^ (63 - t) - (u + 1)) = 0 := by
      apply Nat.eq_of_testBit_eq
      intro i
      rw [Nat.testBit_and, Nat.testBit_two_pow_sub_succ hu2, Nat.zero_testBit]
      cases u.testBit i <;> simp
    rw [this]
    omega
  have hm : uN ((x &&& (-x)) - 1) = 2 ^ t - 1 := by
    rw [uN_sub, uN_one, ha]
    have : 2 ^ t < 18446744073709551616 := by rw [← ha]; exact uN_lt _
    omega
  have hb : ∀ j, xB ((x &&& (-x)) - 1) j = decide (j < t) := fun j => by
    unfold xB
    rw [hm, Nat.testBit_two_pow_sub_one]
  unfold pop
  have e : (64 : Nat) = t + (64 - t) := by omega
  rw [e, cnt_add, cnt_zero (n := 64 - t) (fun k _ => by rw [hb]; exact decide_eq_false (by omega)), Nat.add_zero]
  have all : ∀ k, k ≤ t → cnt (xB ((x &&& (-x)) - 1)) k = k := by
    intro k
    induction k with
    | zero => intro _; rfl
    | succ k ih => intro hk; rw [cnt_t (by rw [hb]; exact decide_eq_true (by omega)), ih (by omega)]
  exact all t (Nat.le_refl t)
/-- k times without its lowest bit -/
def clr (x : Int64) : Nat → Int64
  | 0 => x
  | k + 1 => clr x k &&& (clr x k - 1)
theorem clr_ok (x : Int64) : ∀ k, k ≤ pop x → ∀ j, j < 64 → xB (clr x k) j = (xB x j && decide (k ≤ cnt (xB x) j))
  | 0, _, j, _ => by simp [clr]
  | k + 1, hk, j, hj => by
    have ih := clr_ok x k (by omega)
    obtain ⟨t, ht, hx, hc⟩ := cnt_hit (p := xB x) (i := k) (n := 64) (by unfold pop at hk; omega)
    have h1 : xB (clr x k) t = true := by rw [ih t ht, hx, hc]; simp
    have h0 : ∀ i, i < t → xB (clr x k) i = false := fun i hi => by
      rw [ih i (by omega)]
      cases hxi : xB x i with
      | false => rfl
      | true =>
        have := cnt_mono (xB x) (show i + 1 ≤ t from hi)
        rw [cnt_t hxi] at this
        have hlt : ¬ k ≤ cnt (xB x) i := by omega
        simp [hlt]
    show xB (clr x k &&& (clr x k - 1)) j = _
    rw [xB_clr ht h1 h0 j, ih j hj]
    cases hxj : xB x j with
    | false => rfl
    | true =>
      simp only [Bool.true_and]
      rcases Nat.lt_trichotomy j t with q | q | q
      · have := cnt_mono (xB x) (show j + 1 ≤ t from q)
        rw [cnt_t hxj] at this
        have a1 : ¬ k ≤ cnt (xB x) j := by omega
        have a2 : ¬ k + 1 ≤ cnt (xB x) j := by omega
        simp [a1, a2]
      · subst q
        simp [hc]
      · have := cnt_mono (xB x) (show t + 1 ≤ j from q)
        rw [cnt_t hx] at this
        have a1 : k ≤ cnt (xB x) j := by omega
        have a2 : k + 1 ≤ cnt (xB x) j := by omega
        have a3 : j ≠ t := by omega
        simp [a1, a2, a3]
/-- the bit that has k others below it -/
theorem clr_low {x : Int64} {k : Nat} (hk : k < pop x) : ∃ t, t < 64 ∧ xB x t = true ∧ cnt (xB x) t = k ∧ pop ((clr x k &&& (-(clr x k))) - 1) = t := by
  obtain ⟨t, ht, hx, hc⟩ := cnt_hit (p := xB x) (i := k) (n := 64) hk
  have ih := clr_ok x k (by omega)
  refine ⟨t, ht, hx, hc, pop_low ht (by rw [ih t ht, hx, hc]; simp) (fun i hi => ?_)⟩
  rw [ih i (by omega)]
  cases hxi : xB x i with
  | false => rfl
  | true =>
    have := cnt_mono (xB x) (show i + 1 ≤ t from hi)
    rw [cnt_t hxi] at this
    have hlt : ¬ k ≤ cnt (xB x) i := by omega
    simp [hlt]
end
section
/-! The JDK's bit count, by its own steps. -/
def shr (x : Int64) (k : Nat) : Int64 := (Int64.toUInt64 x >>> (Int64.toUInt64 (Int32.toInt64 (nI k)) &&& Int64.toUInt64 63)).toInt64
theorem shr_c : ∀ k, k < 64 → (Int64.toUInt64 (Int32.toInt64 (nI k)) &&& Int64.toUInt64 63).toNat % 64 = k := by decide +kernel
theorem uN_sk (x : Int64) {k : Nat} (hk : k < 64) : uN (shr x k) = uN x / 2 ^ k := by
  unfold shr
  rw [uN_shr, shr_c k hk]
def bs1 (x : Int64) : Int64 := x - (shr x 1 &&& 6148914691236517205)
def bs2 (x : Int64) : Int64 := (x &&& 3689348814741910323) + (shr x 2 &&& 3689348814741910323)
def bs3 (x : Int64) : Int64 := (x + shr x 4) &&& 1085102592571150095
def bs4 (x : Int64) : Int64 := x + shr x 8
def bs5 (x : Int64) : Int64 := x + shr x 16
def bs6 (x : Int64) : Int64 := x + shr x 32
def bcI (x : Int64) : Int32 := Int64.toInt32 (bs6 (bs5 (bs4 (bs3 (bs2 (bs1 x)))))) &&& nI 127
theorem i32_127 (x : Int64) : Int64.toInt32 x &&& nI 127 = nI (uN x % 128) := by
  rw [pk_and (Int64.toInt32 x) (m := nI 127) 7 (by decide)]
  congr 1
  have e : (Int64.toInt32 x).toBitVec.toNat = uN x % 2 ^ 32 := by
    rw [Int64.toBitVec_toInt32, BitVec.signExtend_eq_setWidth_of_le _ (by omega), BitVec.toNat_setWidth]
    rfl
  rw [e]
  omega
theorem bcI_pop (x : Int64) : bcI x = nI (pop x) := by
  have hx : uN x < 2 ^ 64 := uN_lt x
  have h1 := hd1_ok hx
  have z : ∀ k, 64 ≤ k → bt1 (uN x) k = 0 := fun k hk => bt1_big (Nat.lt_of_lt_of_le hx (Nat.pow_le_pow_right (by omega) hk))
  have l1 : ∀ k, bt1 (uN x) k ≤ 1 := fun k => by have := bt1_lt (uN x) k; omega
  have e1 : uN (bs1 x) = hd1 (uN x) := by
    unfold bs1
    rw [uN_sub, uN_and, uN_sk x (by omega), show uN 6148914691236517205 = 6148914691236517205 from rfl, show (2 : Nat) ^ 1 = 2 from rfl]
    have := h1.1
    unfold hd1
    omega
  have g2 : ∀ k, (fun k => bt1 (uN x) (2 * k) + bt1 (uN x) (2 * k + 1)) k ≤ 2 := fun k => by have := l1 (2 * k); have := l1 (2 * k + 1); show bt1 (uN x) (2 * k) + bt1 (uN x) (2 * k + 1) ≤ 2; omega
  have e2' := hd2_ok (g := fun k => bt1 (uN x) (2 * k) + bt1 (uN x) (2 * k + 1)) g2 (fun k hk => by rw [z (2 * k) (by omega), z (2 * k + 1) (by omega)])
  have g4 : ∀ k, (bt1 (uN x) (2 * (2 * k)) + bt1 (uN x) (2 * (2 * k) + 1)) + (bt1 (uN x) (2 * (2 * k + 1)) + bt1 (uN x) (2 * (2 * k + 1) + 1)) ≤ 4 := fun k => by
    have := l1 (2 * (2 * k)); have := l1 (2 * (2 * k) + 1); have := l1 (2 * (2 * k + 1)); have := l1 (2 * (2 * k + 1) + 1); omega
  have lt2 : hd2 (hd1 (uN x)) < 2 ^ 64 := by
    rw [h1.2, e2']
    exact fsm_lt (m := 4) (fun k => by have := g4 k; show _ < 16; omega) 16
  have e2 : uN (bs2 (bs1 x)) = hd2 (hd1 (uN x)) := by
    unfold bs2
    rw [uN_add, uN_and, uN_and, uN_sk _ (by omega), show uN 3689348814741910323 = 3689348814741910323 from rfl, e1, show (2 : Nat) ^ 2 = 4 from rfl]
    unfold hd2 at lt2 ⊢
    omega
  have e3' := hd3_ok (g := fun k => (bt1 (uN x) (2 * (2 * k)) + bt1 (uN x) (2 * (2 * k) + 1)) + (bt1 (uN x) (2 * (2 * k + 1)) + bt1 (uN x) (2 * (2 * k + 1) + 1))) g4
    (fun k hk => by rw [z (2 * (2 * k)) (by omega), z (2 * (2 * k) + 1) (by omega), z (2 * (2 * k + 1)) (by omega), z (2 * (2 * k + 1) + 1) (by omega)])
  have e3 : uN (bs3 (bs2 (bs1 x))) = hdB (uN x) := by
    unfold bs3 hdB
    rw [uN_and, uN_add, uN_sk _ (by omega), show uN 1085102592571150095 = 1085102592571150095 from rfl, e2]
    have := e3'.1
    rw [← e2', ← h1.2] at this
    unfold hd3
    rw [Nat.mod_eq_of_lt this]
  obtain ⟨b1, c1, d1, r1⟩ := hd_pop hx
  have e4 : uN (bs4 (bs3 (bs2 (bs1 x)))) = hdB (uN x) + hdB (uN x) / 256 := by
    unfold bs4
    rw [uN_add, uN_sk _ (by omega), e3]
    exact Nat.mod_eq_of_lt b1
  have e5 : uN (bs5 (bs4 (bs3 (bs2 (bs1 x))))) = hdB (uN x) + hdB (uN x) / 256 + (hdB (uN x) + hdB (uN x) / 256) / 65536 := by
    unfold bs5
    rw [uN_add, uN_sk _ (by omega), e4]
    exact Nat.mod_eq_of_lt c1
  have e6 : uN (bs6 (bs5 (bs4 (bs3 (bs2 (bs1 x)))))) = hdB (uN x) + hdB (uN x) / 256 + (hdB (uN x) + hdB (uN x) / 256) / 65536 + (hdB (uN x) + hdB (uN x) / 256 + (hdB (uN x) + hdB (uN x) / 256) / 65536) / 4294967296 := by
    unfold bs6
    rw [uN_add, uN_sk _ (by omega), e5]
    exact Nat.mod_eq_of_lt d1
  unfold bcI
  rw [i32_127, e6]
  exact congrArg nI r1
/-! What the class's methods answer, as functions: no machine here. -/
theorem ts_f {b : Bool} (h : ¬ b = true) : b = false := by cases b <;> first | rfl | exact absurd rfl h
theorem i32_nlt {x y : Int32} (h : y ≤ x) : ¬ x < y := by
  rw [Int32.lt_iff_toInt_lt]
  rw [Int32.le_iff_toInt_le] at h
  omega
theorem i32_lt {x y : Int32} (h : ¬ y ≤ x) : x < y := by
  rw [Int32.lt_iff_toInt_lt]
  rw [Int32.le_iff_toInt_le] at h
  omega
/-- an array of references, asked at any int -/
def oAt (N : Nat) (mk : Nat → Option Nat) (x : Int32) : Option Nat := if blw x (nI N) = true then mk x.toNatClampNeg else none
theorem oAt_nI {N : Nat} {mk : Nat → Option Nat} {j : Nat} (hj : j < N) (hN : N < 2 ^ 31) : oAt N mk (nI j) = mk j := by
  unfold oAt
  rw [blw_nI hN (by omega), decide_eq_true hj, if_pos rfl, nI_clamp (by omega)]
theorem oAt_no {N : Nat} {mk : Nat → Option Nat} {x : Int32} (h : blw x (nI N) = false) : oAt N mk x = none := by
  unfold oAt
  rw [h]
  rfl
/-- the first n places of an array hold something -/
def upto (n : Nat) (ad : Nat → Nat) : Nat → Option Nat := fun i => if i < n then some (ad i) else none
theorem upto_t {n : Nat} {ad : Nat → Nat} {i : Nat} (h : i < n) : upto n ad i = some (ad i) := if_pos h
theorem upto_f {n : Nat} {ad : Nat → Nat} {i : Nat} (h : n ≤ i) : upto n ad i = none := if_neg (by omega)
theorem oAt_t {N n : Nat} {ad : Nat → Nat} {i : Nat} (hN : N < 2 ^ 31) (hn : n ≤ N) (h : i < n) : oAt N (upto n ad) (nI i) = some (ad i) := (oAt_nI (by omega) hN).trans (upto_t h)
theorem oAt_f {N n : Nat} {ad : Nat → Nat} {i : Nat} (hN : N < 2 ^ 31) (hi : i < N) (h : n ≤ i) : oAt N (upto n ad) (nI i) = none := (oAt_nI hi hN).trans (upto_f h)
def shl (x : Int64) (k : Nat) : Int64 := x <<< (Int32.toInt64 (nI k) &&& 63)
/-! ### the condition book -/
/-- the book of conditions, as its cells lie -/
def CoB (G : GG) (L : List Nat) (f : Nat → va_E) (cb mA gA n : Nat) (ad wa kd : Nat → Nat) (ka kb kc : Nat → Int32) (wd : Nat → Nat → Int64) (mm : Nat → Bool) : Prop :=
  n ≤ 60 ∧ Lk L f cb (.inr (1, [.ref mA, .ref gA, .int (nI n)])) ∧ Lk L f mA (.inl (G.2 2, 60, .inr (.inr (.inr (.inr (upto n ad)))))) ∧ Lk L f gA (.inl (G.2 1, 64, .inl (fun k => bI (mm k)))) ∧
  ∀ i, i < n → Lk L f (ad i) (.inr (0, [.int (nI (kd i)), .int (ka i), .int (kb i), .int (kc i), .ref (wa i)])) ∧ Lk L f (wa i) (.inl (G.2 0, 96, .inr (.inl (wd i))))
def vfR (a b : Nat) : Nat → Int64
  | 0 => 0
  | i + 1 => if a ≤ i ∧ i ≤ b then vfR a b i ||| shl 72340172838076673 i else vfR a b i
def two3 (x y z : Int64) : Int64 := ((x &&& y) ||| (x &&& z)) ||| (y &&& z)
def prW (w a : Nat) : Int64 := if w % 3 = a / 2 then shl 4294967295 (a % 2 * 4 * 8) else 0
/-- a condition's word, out of the words of those before it -/
def wrd (mm : Nat → Bool) (wd : Nat → Nat → Int64) (k a b c w : Nat) : Int64 :=
  if k = 0 then (if w / 12 = a then -1 else 0)
  else if k = 1 then (if mm (w / 12 * 8 + a) = true then -1 else 0)
  else if k = 2 then (if w % 12 / 3 = a then -1 else 0)
  else if k = 3 then prW w a
  else if k = 4 then shl 1095216660735 (a * 8)
  else if k = 5 then vfR a b 8
  else if k = 6 then wd a w ^^^ (-1)
  else if k = 7 then wd a w &&& wd b w
  else if k = 8 then wd a w ||| wd b w
  else if k = 9 then -1
  else two3 (wd a w) (wd b w) (wd c w)
/-- the numbers of a condition, as they may be where n others stand -/
def okC (n k : Nat) (ka kb kc : Int32) (a b c : Nat) : Prop :=
  k ≤ 10 ∧ (k ≠ 9 → ka = nI a) ∧ (k = 5 ∨ k = 7 ∨ k = 8 ∨ k = 10 → kb = nI b) ∧ (k = 10 → kc = nI c) ∧
  (k = 0 → a < 8) ∧ (k = 1 → a < 8) ∧ (k = 2 → a < 4) ∧ (k = 3 → a < 6) ∧ (k = 4 → a < 4) ∧ (k = 5 → a ≤ b ∧ b < 8) ∧ (k = 6 → a < n) ∧ (k = 7 ∨ k = 8 → a < n ∧ b < n) ∧ (k = 10 → a < n ∧ b < n ∧ c < n)
/-- canBe -/
def cOK (n : Nat) (k a b c : Int32) : Bool :=
  if k = nI 0 then blw a (nI 8) else if k = nI 1 then blw a (nI 8) else if k = nI 2 then blw a (nI 4) else if k = nI 3 then blw a (nI 6) else if k = nI 4 then blw a (nI 4)
  else if k = nI 5 then (blw a (nI 8) && (blw b (nI 8) && decide (a ≤ b))) else if k = nI 6 then blw a (nI n) else if k = nI 7 then (blw a (nI n) && blw b (nI n)) else if k = nI 8 then (blw a (nI n) && blw b (nI n))
  else if k = nI 9 then true else if k = nI 10 then (blw a (nI n) && (blw b (nI n) && blw c (nI n))) else false
theorem k11 (k : Int32) : k = nI 0 ∨ k = nI 1 ∨ k = nI 2 ∨ k = nI 3 ∨ k = nI 4 ∨ k = nI 5 ∨ k = nI 6 ∨ k = nI 7 ∨ k = nI 8 ∨ k = nI 9 ∨ k = nI 10 ∨ (k.toInt < 0 ∨ 10 < k.toInt) := by
  by_cases h : k.toInt < 0 ∨ 10 < k.toInt
  · exact Or.inr (Or.inr (Or.inr (Or.inr (Or.inr (Or.inr (Or.inr (Or.inr (Or.inr (Or.inr (Or.inr h))))))))))
  · have e : ∀ j : Nat, j < 11 → k.toInt = (j : Int) → k = nI j := fun j hj h2 => Int32.toInt_inj.mp (by rw [h2, nI_toInt (by omega)])
    have h3 : k.toInt = ((0 : Nat) : Int) ∨ k.toInt = ((1 : Nat) : Int) ∨ k.toInt = ((2 : Nat) : Int) ∨ k.toInt = ((3 : Nat) : Int) ∨ k.toInt = ((4 : Nat) : Int) ∨ k.toInt = ((5 : Nat) : Int) ∨ k.toInt = ((6 : Nat) : Int) ∨ k.toInt = ((7 : Nat) : Int) ∨ k.toInt = ((8 : Nat) : Int) ∨ k.toInt = ((9 : Nat) : Int) ∨ k.toInt = ((10 : Nat) : Int) := by omega
    rcases h3 with q | q | q | q | q | q | q | q | q | q | q
    · exact Or.inl (e 0 (by omega) q)
    · exact Or.inr (Or.inl (e 1 (by omega) q))
    · exact Or.inr (Or.inr (Or.inl (e 2 (by omega) q)))
    · exact Or.inr (Or.inr (Or.inr (Or.inl (e 3 (by omega) q))))
    · exact Or.inr (Or.inr (Or.inr (Or.inr (Or.inl (e 4 (by omega) q)))))
    · exact Or.inr (Or.inr (Or.inr (Or.inr (Or.inr (Or.inl (e 5 (by omega) q))))))
    · exact Or.inr (Or.inr (Or.inr (Or.inr (Or.inr (Or.inr (Or.inl (e 6 (by omega) q)))))))
    · exact Or.inr (Or.inr (Or.inr (Or.inr (Or.inr (Or.inr (Or.inr (Or.inl (e 7 (by omega) q))))))))
    · exact Or.inr (Or.inr (Or.inr (Or.inr (Or.inr (Or.inr (Or.inr (Or.inr (Or.inl (e 8 (by omega) q)))))))))
    · exact Or.inr (Or.inr (Or.inr (Or.inr (Or.inr (Or.inr (Or.inr (Or.inr (Or.inr (Or.inl (e 9 (by omega) q))))))))))
    · exact Or.inr (Or.inr (Or.inr (Or.inr (Or.inr (Or.inr (Or.inr (Or.inr (Or.inr (Or.inr (Or.inl (e 10 (by omega) q)))))))))))
theorem k11_no {k : Int32} (h : k.toInt < 0 ∨ 10 < k.toInt) {j : Nat} (hj : j < 11) : ¬ k = nI j := by
  intro q
  rw [q, nI_toInt (by omega)] at h
  omega
/-! ### the rule book -/
/-- the book of rules, as its cells lie: place by place -/
def RuB (G : GG) (L : List Nat) (f : Nat → va_E) (rb rA n : Nat) (rad ca wa rk nu : Nat → Nat) (dn : Nat → Bool) (ww : Nat → Nat → Int64) : Prop :=
  n ≤ 20 ∧ Lk L f rb (.inr (3, [.ref rA, .int (nI n)])) ∧ Lk L f rA (.inl (G.2 3, 20, .inr (.inr (.inr (.inr (upto n rad)))))) ∧
  ∀ q, q < n → rk q < 10 ∧ nu q < 20 ∧ Lk L f (rad q) (.inr (2, [.int (nI (rk q)), .int (bI (dn q)), .ref (ca q), .int (nI (nu q))])) ∧
    (∃ k0 k1 k2 k3 : Int32, Lk L f (ca q) (.inr (0, [.int k0, .int k1, .int k2, .int k3, .ref (wa q)]))) ∧ Lk L f (wa q) (.inl (G.2 0, 96, .inr (.inl (ww q))))
def gob (r1 : Nat) (d1 : Bool) (r2 : Nat) (d2 : Bool) : Bool := decide (r1 < r2) || (decide (r1 = r2) && (d1 && !d2))
def rkB (r : Nat) (d t : Bool) : Nat := if (t && !d) = true then r + 1 else r
/-- the first of k places from q on -/
def fst0 (P : Nat → Bool) : Nat → Nat → Option Nat
  | 0, _ => none
  | k + 1, q => if P q = true then some q else fst0 P k (q + 1)
def plN (o : Option Nat) : Int32 := match o with
  | none => -1
  | some q => nI q
/-- those that are allowed, from place q on, of the open ones -/
def alF (ww : Nat → Nat → Int64) (dn : Nat → Bool) (w : Nat) : Nat → Nat → Int64 → Int64 → Int64
  | 0, _, _, al => al
  | k + 1, q, left, al => if left = 0 then al else alF ww dn w k (q + 1) (left &&& ((left &&& ww q w) ^^^ (-1))) (al ||| (if dn q = true then 0 else left &&& ww q w))
/-- what is left behind the places from q on -/
def deF (ww : Nat → Nat → Int64) (w : Nat) : Nat → Nat → Int64 → Int64
  | 0, _, left => left
  | k + 1, q, left => if left = 0 then left else deF ww w k (q + 1) (left &&& (ww q w ^^^ (-1)))
def tuF (ww : Nat → Nat → Int64) (dn : Nat → Bool) (n q w : Nat) : Int64 :=
  if dn q = true then alF ww dn w (n - (q + 1)) (q + 1) (deF ww w q 0 (ww q w)) 0
  else deF ww w q 0 (ww q w) &&& (alF ww dn w (n - (q + 1)) (q + 1) (deF ww w q 0 (ww q w)) 0 ^^^ (-1))
def idF (ww : Nat → Nat → Int64) (rk : Nat → Nat) (dn : Nat → Bool) (t : Bool) (w : Nat) : Nat → Nat → Int64 → Nat → Nat
  | 0, _, left, r => if left = 0 then r else 10
  | k + 1, q, left, r => if left = 0 then r else idF ww rk dn t w k (q + 1) (left &&& (ww q w ^^^ (-1))) (rkB (rk q) (dn q) t)
def isNo (n : Nat) (nu : Nat → Nat) (x : Int32) (q : Nat) : Bool := decide (q < n ∧ nI (nu q) = x)
theorem isNo_t {n : Nat} {nu : Nat → Nat} {x : Int32} {q : Nat} (h : q < n) (e : nI (nu q) = x) : isNo n nu x q = true := decide_eq_true ⟨h, e⟩
theorem isNo_f1 {n : Nat} {nu : Nat → Nat} {x : Int32} {q : Nat} (h : ¬ q < n) : ¬ isNo n nu x q = true := fun z => h (of_decide_eq_true z).1
theorem isNo_f2 {n : Nat} {nu : Nat → Nat} {x : Int32} {q : Nat} (h : ¬ nI (nu q) = x) : ¬ isNo n nu x q = true := fun z => h (of_decide_eq_true z).2
def isPl (n r0 : Nat) (d0 : Bool) (rk : Nat → Nat) (dn : Nat → Bool) (q : Nat) : Bool := decide (n ≤ q) || gob r0 d0 (rk q) (dn q)
theorem isPl_t1 {n r0 : Nat} {d0 : Bool} {rk : Nat → Nat} {dn : Nat → Bool} {q : Nat} (h : n ≤ q) : isPl n r0 d0 rk dn q = true := by unfold isPl; rw [decide_eq_true h]; rfl
theorem isPl_t2 {n r0 : Nat} {d0 : Bool} {rk : Nat → Nat} {dn : Nat → Bool} {q : Nat} (h : gob r0 d0 (rk q) (dn q) = true) : isPl n r0 d0 rk dn q = true := by unfold isPl; rw [h, Bool.or_true]
theorem isPl_f {n r0 : Nat} {d0 : Bool} {rk : Nat → Nat} {dn : Nat → Bool} {q : Nat} (h : q < n) (hg : gob r0 d0 (rk q) (dn q) = false) : ¬ isPl n r0 d0 rk dn q = true := by
  unfold isPl
  rw [hg, decide_eq_false (by omega)]
  decide
def plF (o : Option Nat) : Int32 := nI (o.getD 20)
def hit (ww : Nat → Nat → Int64) (a q : Nat) : Bool := decide (¬ ww q (a / 64) &&& shl 1 (a % 64) = 0)
theorem hit_t {ww : Nat → Nat → Int64} {a q : Nat} (h : ¬ ww q (a / 64) &&& shl 1 (a % 64) = 0) : hit ww a q = true := decide_eq_true h
theorem hit_f {ww : Nat → Nat → Int64} {a q : Nat} (h : ww q (a / 64) &&& shl 1 (a % 64) = 0) : ¬ hit ww a q = true := fun z => of_decide_eq_true z h
/-! ### the desk -/
def bpos (x : Int64) (k : Nat) : Nat := pop ((clr x k &&& (-(clr x k))) - 1)
def sumP (g : Nat → Int64) : Nat → Nat
  | 0 => 0
  | k + 1 => sumP g k + pop (g k)
def onR (g : Nat → Int32) (o : Option Nat) : Int32 := match o with
  | none => -1
  | some i => g i
def inN (n : Nat) (x : Int32) : Option Nat := if blw x (nI n) = true then some x.toNatClampNeg else none
theorem inN_t {n i : Nat} (h : i < n) (hn : n < 2 ^ 31) : inN n (nI i) = some i := by
  unfold inN
  rw [blw_nI hn (by omega), decide_eq_true h, if_pos rfl, nI_clamp (by omega)]
theorem inN_f {n : Nat} {x : Int32} (h : blw x (nI n) = false) : inN n x = none := by
  unfold inN
  rw [h]
  rfl
theorem at60 {n : Nat} {ad : Nat → Nat} (hn : n ≤ 60) (x : Int32) : (∃ i, i < n ∧ x = nI i) ∨ (blw x (nI n) = false ∧ oAt 60 (upto n ad) x = none) := by
  cases hb : blw x (nI n) with
  | true =>
    obtain ⟨i, hi, e⟩ := blw_of (by omega) hb
    exact Or.inl ⟨i, hi, e⟩
  | false =>
    refine Or.inr ⟨rfl, ?_⟩
    cases h6 : blw x (nI 60) with
    | false => exact oAt_no h6
    | true =>
      obtain ⟨j, hj, e⟩ := blw_of (by omega) h6
      subst e
      refine oAt_f (by omega) hj ?_
      rw [blw_nI (by omega) (by omega)] at hb
      have := of_decide_eq_false hb
      omega
def askR (g : Nat → Int64) : Nat → Nat → Nat → Int32
  | 0, _, _ => -2
  | k + 1, w, left => if left < pop (g w) then nI (w * 64 + bpos (g w) left) else askR g k (w + 1) (left - pop (g w))
def askY (g : Nat → Int64) (y : Int32) : Int32 := if y < 0 then -2 else askR g 96 0 y.toNatClampNeg
def winR (g h : Nat → Int64) : Nat → Nat → Int32
  | 0, _ => nI 1
  | k + 1, w => if g w &&& (h w ^^^ (-1)) = 0 then winR g h k (w + 1) else nI 0
def maxR (g : Nat → Nat) : Nat → Nat
  | 0 => 0
  | k + 1 => max (maxR g k) (g k)
theorem maxR_le {g : Nat → Nat} (h : ∀ j, g j ≤ 10) : ∀ k, maxR g k ≤ 10
  | 0 => Nat.zero_le _
  | k + 1 => Nat.max_le.mpr ⟨maxR_le h k, h k⟩
theorem nI_max {a b : Nat} (ha : a ≤ 10) (hb : b ≤ 10) : (if nI a < nI b then nI b else nI a) = nI (max a b) := by
  by_cases h : a < b
  · rw [if_pos (nI_lt h (by omega)), Nat.max_eq_right (by omega)]
  · rw [if_neg (nI_nlt (by omega) (by omega)), Nat.max_eq_left (by omega)]
theorem idF_le0 {ww : Nat → Nat → Int64} {rk : Nat → Nat} {dn : Nat → Bool} {t : Bool} {w n : Nat} (h : ∀ q, q < n → rk q < 10) : ∀ (k q : Nat) (left : Int64) (r : Nat), q + k ≤ n → r ≤ 10 → idF ww rk dn t w k q left r ≤ 10
  | 0, q, left, r, _, hr => by
    show (if left = 0 then r else 10) ≤ 10
    split <;> omega
  | k + 1, q, left, r, hq, hr => by
    show (if left = 0 then r else _) ≤ 10
    split
    · exact hr
    · refine idF_le0 h k (q + 1) _ _ (by omega) ?_
      have := h q (by omega)
      unfold rkB
      split <;> omega
theorem idF_le {ww : Nat → Nat → Int64} {rk : Nat → Nat} {dn : Nat → Bool} {t : Bool} {w n : Nat} {op : Int64} (_ : n ≤ 20) (h : ∀ q, q < n → rk q < 10) : idF ww rk dn t w n 0 op 0 ≤ 10 := idF_le0 h n 0 op 0 (by omega) (by omega)
def apR (D : Nat → Int64) (u : Nat) : Nat → Nat → Int32
  | 0, _ => -2
  | k + 1, i => if D i = 0 then apR D u k (i + 1) else nI ((u * 12 + i) * 64 + bpos (D i) 0)
def mayR (nu : Nat → Nat) (dn : Nat → Bool) (wh : Nat) (o : Option Nat) : Int32 :=
  if wh = 1 then (match o with | none => -2 | some q => nI (nu q)) else (match o with | none => nI 0 | some q => if dn q = true then nI 0 else nI 1)
def aNo (u gr pr kl v : Nat) : Nat := (((u * 4 + gr) * 6 + pr) * 4 + kl) * 8 + v
theorem fst0_t {P : Nat → Bool} : ∀ {k q0 q : Nat}, fst0 P k q0 = some q → P q = true ∧ q < q0 + k
  | 0, q0, q, h => by cases h
  | k + 1, q0, q, h => by
    by_cases hp : P q0 = true
    · have e : fst0 P (k + 1) q0 = some q0 := if_pos hp
      rw [e] at h
      cases h
      exact ⟨hp, by omega⟩
    · have e : fst0 P (k + 1) q0 = fst0 P k (q0 + 1) := if_neg hp
      rw [e] at h
      obtain ⟨h1, h2⟩ := fst0_t h
      exact ⟨h1, by omega⟩
theorem nI_m1 {n : Nat} (h : n < 2 ^ 31) : ¬ nI n = -1 := by
  intro q
  have a := nI_toInt h
  rw [q] at a
  have b : (-1 : Int32).toInt = -1 := by decide
  omega
end
section
/-! What the class's answers mean, ask by ask. An ask is a number below 6144: bit q % 64 of word q / 64. -/
/-- a word's bit, ask by ask -/
def aB (g : Nat → Int64) (q : Nat) : Bool := xB (g (q / 64)) (q % 64)
theorem aB_at (g : Nat → Int64) {w b : Nat} (hb : b < 64) : aB g (64 * w + b) = xB (g w) b := by
  unfold aB
  rw [show (64 * w + b) / 64 = w by omega, show (64 * w + b) % 64 = b by omega]
theorem sumP_cnt (g : Nat → Int64) : ∀ k, sumP g k = cnt (aB g) (64 * k)
  | 0 => rfl
  | k + 1 => by
    show sumP g k + pop (g k) = cnt (aB g) (64 * k + 64)
    rw [cnt_add, sumP_cnt g k]
    unfold pop
    rw [cnt_congr (q := fun j => aB g (64 * k + j)) (fun j hj => (aB_at g hj).symm)]
theorem askR_ok (g : Nat → Int64) : ∀ (k w left : Nat), w + k = 96 →
    (∃ q, q < 6144 ∧ aB g q = true ∧ cnt (aB g) q = cnt (aB g) (64 * w) + left ∧ askR g k w left = nI q) ∨ (cnt (aB g) 6144 ≤ cnt (aB g) (64 * w) + left ∧ askR g k w left = -2)
  | 0, w, left, hw => by
    refine Or.inr ⟨?_, rfl⟩
    rw [show w = 96 by omega]
    exact Nat.le_add_right _ _
  | k + 1, w, left, hw => by
    have hs : cnt (aB g) (64 * (w + 1)) = cnt (aB g) (64 * w) + pop (g w) := by
      rw [← sumP_cnt, ← sumP_cnt]
      rfl
    by_cases hl : left < pop (g w)
    · have e : askR g (k + 1) w left = nI (w * 64 + bpos (g w) left) := if_pos hl
      obtain ⟨t, ht, hx, hc, hp⟩ := clr_low hl
      refine Or.inl ⟨64 * w + t, by omega, by rw [aB_at g ht]; exact hx, ?_, ?_⟩
      · rw [cnt_add, cnt_congr (q := xB (g w)) (fun j hj => aB_at g (show j < 64 by omega)), hc]
      · rw [e, show bpos (g w) left = t from hp, Nat.mul_comm]
    · have e : askR g (k + 1) w left = askR g k (w + 1) (left - pop (g w)) := if_neg hl
      rw [e]
      rcases askR_ok g k (w + 1) (left - pop (g w)) (by omega) with ⟨q, h1, h2, h3, h4⟩ | ⟨h1, h2⟩
      · exact Or.inl ⟨q, h1, h2, by rw [h3, hs]; omega, h4⟩
      · refine Or.inr ⟨?_, h2⟩
        rw [hs] at h1
        omega
theorem winR_ok (g h : Nat → Int64) : ∀ (k w : Nat), w + k = 96 → ((∀ q, 64 * w ≤ q → q < 6144 → aB g q = true → aB h q = true) ∧ winR g h k w = nI 1) ∨ ((∃ q, 64 * w ≤ q ∧ q < 6144 ∧ aB g q = true ∧ aB h q = false) ∧ winR g h k w = nI 0)
  | 0, w, hw => Or.inl ⟨fun q h1 h2 => by omega, rfl⟩
  | k + 1, w, hw => by
    by_cases hz : g w &&& (h w ^^^ (-1)) = 0
    · have e : winR g h (k + 1) w = winR g h k (w + 1) := if_pos hz
      rw [e]
      rcases winR_ok g h k (w + 1) (by omega) with ⟨h1, h2⟩ | ⟨⟨q, h1, h2⟩, h3⟩
      · refine Or.inl ⟨fun q hq hq2 hg => ?_, h2⟩
        by_cases hq3 : 64 * (w + 1) ≤ q
        · exact h1 q hq3 hq2 hg
        · obtain ⟨b, rfl⟩ : ∃ b, q = 64 * w + b := ⟨q - 64 * w, by omega⟩
          have hb : b < 64 := by omega
          rw [aB_at _ hb] at hg ⊢
          have := xB_z.mp hz b hb
          rw [xB_and, hg, xB_not _ hb] at this
          cases hh : xB (h w) b with
          | true => rfl
          | false => rw [hh] at this; cases this
      · exact Or.inr ⟨⟨q, by omega, h2⟩, h3⟩
    · have e : winR g h (k + 1) w = nI 0 := if_neg hz
      refine Or.inr ⟨?_, e⟩
      obtain ⟨b, hb, hx⟩ := xB_nz hz
      rw [xB_and, xB_not _ hb] at hx
      refine ⟨64 * w + b, by omega, by omega, ?_, ?_⟩
      · rw [aB_at _ hb]
        cases hg : xB (g w) b with
        | true => rfl
        | false => rw [hg] at hx; cases hx
      · rw [aB_at _ hb]
        cases hh : xB (h w) b with
        | false => rfl
        | true => rw [hh] at hx; simp at hx
/-! ### the rules, place by place -/
theorem alF_ok (ww : Nat → Nat → Int64) (dn : Nat → Bool) (w : Nat) {b : Nat} (hb : b < 64) : ∀ (k q : Nat) (left al : Int64),
    xB (alF ww dn w k q left al) b = (xB al b || (xB left b && (match fst0 (fun j => xB (ww j w) b) k q with | none => false | some j => !dn j)))
  | 0, q, left, al => by
    show xB al b = (xB al b || (xB left b && false))
    rw [Bool.and_false, Bool.or_false]
  | k + 1, q, left, al => by
    by_cases hz : left = 0
    · have e : alF ww dn w (k + 1) q left al = al := if_pos hz
      rw [e, hz, xB_0, Bool.false_and, Bool.or_false]
    · have e : alF ww dn w (k + 1) q left al = alF ww dn w k (q + 1) (left &&& ((left &&& ww q w) ^^^ (-1))) (al ||| (if dn q = true then 0 else left &&& ww q w)) := if_neg hz
      rw [e, alF_ok ww dn w hb k (q + 1), xB_or, xB_and, xB_not _ hb, xB_and]
      have hi : xB (if dn q = true then 0 else left &&& ww q w) b = ((!dn q) && (xB left b && xB (ww q w) b)) := by
        cases dn q with
        | true => exact xB_0 b
        | false => exact xB_and _ _ b
      rw [hi]
      cases hx : xB (ww q w) b with
      | true =>
        have e2 : fst0 (fun j => xB (ww j w) b) (k + 1) q = some q := if_pos hx
        rw [e2]
        show _ = (xB al b || (xB left b && (!dn q)))
        cases xB al b <;> cases xB left b <;> cases dn q <;> rfl
      | false =>
        have e2 : fst0 (fun j => xB (ww j w) b) (k + 1) q = fst0 (fun j => xB (ww j w) b) k (q + 1) := if_neg (fun z => by rw [show (fun j => xB (ww j w) b) q = false from hx] at z; cases z)
        rw [e2]
        cases xB al b <;> cases xB left b <;> cases dn q <;> rfl
theorem deF_ok (ww : Nat → Nat → Int64) (w : Nat) {b : Nat} (hb : b < 64) : ∀ (k q : Nat) (left : Int64),
    xB (deF ww w k q left) b = (xB left b && (fst0 (fun j => xB (ww j w) b) k q).isNone)
  | 0, q, left => by
    show xB left b = (xB left b && true)
    rw [Bool.and_true]
  | k + 1, q, left => by
    by_cases hz : left = 0
    · have e : deF ww w (k + 1) q left = left := if_pos hz
      rw [e, hz, xB_0, Bool.false_and]
    · have e : deF ww w (k + 1) q left = deF ww w k (q + 1) (left &&& (ww q w ^^^ (-1))) := if_neg hz
      rw [e, deF_ok ww w hb k (q + 1), xB_and, xB_not _ hb]
      cases hx : xB (ww q w) b with
      | true =>
        have e2 : fst0 (fun j => xB (ww j w) b) (k + 1) q = some q := if_pos hx
        rw [e2]
        cases xB left b <;> rfl
      | false =>
        have e2 : fst0 (fun j => xB (ww j w) b) (k + 1) q = fst0 (fun j => xB (ww j w) b) k (q + 1) := if_neg (fun z => by rw [show (fun j => xB (ww j w) b) q = false from hx] at z; cases z)
        rw [e2]
        cases xB left b <;> rfl
theorem fst0_n {P : Nat → Bool} : ∀ {k q0 : Nat}, fst0 P k q0 = none → ∀ q, q0 ≤ q → q < q0 + k → P q = false
  | 0, q0, _, q, h1, h2 => by omega
  | k + 1, q0, h, q, h1, h2 => by
    by_cases hp : P q0 = true
    · have e : fst0 P (k + 1) q0 = some q0 := if_pos hp
      rw [e] at h
      cases h
    · have e : fst0 P (k + 1) q0 = fst0 P k (q0 + 1) := if_neg hp
      rw [e] at h
      by_cases hq : q = q0
      · rw [hq]; exact ts_f hp
      · exact fst0_n h q (by omega) (by omega)
theorem fst0_s {P : Nat → Bool} : ∀ {k q0 q : Nat}, fst0 P k q0 = some q → q0 ≤ q ∧ q < q0 + k ∧ P q = true ∧ ∀ j, q0 ≤ j → j < q → P j = false
  | 0, q0, q, h => by cases h
  | k + 1, q0, q, h => by
    by_cases hp : P q0 = true
    · have e : fst0 P (k + 1) q0 = some q0 := if_pos hp
      rw [e] at h
      cases h
      exact ⟨Nat.le_refl _, by omega, hp, fun j h1 h2 => by omega⟩
    · have e : fst0 P (k + 1) q0 = fst0 P k (q0 + 1) := if_neg hp
      rw [e] at h
      obtain ⟨h1, h2, h3, h4⟩ := fst0_s h
      refine ⟨by omega, by omega, h3, fun j h5 h6 => ?_⟩
      by_cases hj : j = q0
      · rw [hj]; exact ts_f hp
      · exact h4 j (by omega) h6
theorem fst0_of {P : Nat → Bool} {k q0 q : Nat} (h1 : q0 ≤ q) (h2 : q < q0 + k) (h3 : P q = true) (h4 : ∀ j, q0 ≤ j → j < q → P j = false) : fst0 P k q0 = some q := by
  cases h : fst0 P k q0 with
  | none => rw [fst0_n h q h1 h2] at h3; cases h3
  | some r =>
    obtain ⟨a1, a2, a3, a4⟩ := fst0_s h
    rcases Nat.lt_trichotomy q r with z | z | z
    · rw [a4 q h1 z] at h3; cases h3
    · rw [z]
    · rw [h4 r a1 z] at a3; cases a3
theorem fst0_no {P : Nat → Bool} {k q0 : Nat} (h : ∀ j, q0 ≤ j → j < q0 + k → P j = false) : fst0 P k q0 = none := by
  cases e : fst0 P k q0 with
  | none => rfl
  | some r =>
    obtain ⟨a1, a2, a3, -⟩ := fst0_s e
    rw [h r a1 a2] at a3
    cases a3
theorem fst0_congr {P Q : Nat → Bool} {k q0 : Nat} (h : ∀ j, q0 ≤ j → j < q0 + k → P j = Q j) : fst0 P k q0 = fst0 Q k q0 := by
  cases e : fst0 Q k q0 with
  | none => exact fst0_no (fun j h1 h2 => by rw [h j h1 h2]; exact fst0_n e j h1 h2)
  | some r =>
    obtain ⟨a1, a2, a3, a4⟩ := fst0_s e
    exact fst0_of a1 a2 (by rw [h r a1 a2]; exact a3) (fun j h1 h2 => by rw [h j h1 (by omega)]; exact a4 j h1 h2)
/-- a single bit -/
theorem xB_one : ∀ b, b < 64 → ∀ j, j < 64 → xB (shl 1 b) j = decide (j = b) := by decide +kernel
theorem hit_ok (ww : Nat → Nat → Int64) (a q : Nat) : hit ww a q = aB (ww q) a := by
  have hb : a % 64 < 64 := Nat.mod_lt _ (by omega)
  unfold hit aB
  cases hx : xB (ww q (a / 64)) (a % 64) with
  | true =>
    apply decide_eq_true
    intro h
    have := xB_z.mp h (a % 64) hb
    rw [xB_and, hx, xB_one _ hb _ hb] at this
    simp at this
  | false =>
    apply decide_eq_false
    intro h
    apply h
    refine xB_z.mpr (fun b h1 => ?_)
    rw [xB_and, xB_one _ hb _ h1]
    by_cases e : b = a % 64
    · rw [e, hx]; rfl
    · rw [decide_eq_false e, Bool.and_false]
/-! A condition's word, ask by ask: what the document says of its kind. -/
def hK (mm : Nat → Bool) (h : Nat → Nat → Bool) (k a b c q : Nat) : Bool :=
  if k = 0 then decide (q / 768 = a)
  else if k = 1 then mm (q / 768 * 8 + a)
  else if k = 2 then decide (q / 192 % 4 = a)
  else if k = 3 then decide (q / 32 % 6 = a)
  else if k = 4 then decide (q / 8 % 4 = a)
  else if k = 5 then decide (a ≤ q % 8 ∧ q % 8 ≤ b)
  else if k = 6 then !h a q
  else if k = 7 then (h a q && h b q)
  else if k = 8 then (h a q || h b q)
  else if k = 9 then true
  else ((h a q && h b q) || (h a q && h c q)) || (h b q && h c q)
theorem xB_vf : ∀ a, a < 8 → ∀ b, b < 8 → ∀ j, j < 64 → xB (vfR a b 8) j = decide (a ≤ j % 8 ∧ j % 8 ≤ b) := by decide +kernel
theorem xB_cls : ∀ a, a < 4 → ∀ j, j < 64 → xB (shl 1095216660735 (a * 8)) j = decide (j / 8 % 4 = a) := by decide +kernel
theorem xB_prd : ∀ e, e < 2 → ∀ j, j < 64 → xB (shl 4294967295 (e * 4 * 8)) j = decide (j / 32 = e) := by decide +kernel
theorem xB_if {P : Prop} [Decidable P] {b : Nat} (hb : b < 64) : xB (if P then -1 else 0) b = decide P := by
  by_cases h : P
  · rw [if_pos h, xB_m1 b hb, decide_eq_true h]
  · rw [if_neg h, xB_0, decide_eq_false h]
theorem wrd_ok {mm : Nat → Bool} {wd : Nat → Nat → Int64} {n k a b c : Nat} {xa xb xc : Int32} (ho : okC n k xa xb xc a b c) {w j : Nat} (hj : j < 64) : xB (wrd mm wd k a b c w) j = hK mm (fun i => aB (wd i)) k a b c (64 * w + j) := by
  obtain ⟨hk, -, -, -, h0, h1, h2, h3, h4, h5, -, -, -⟩ := ho
  have hat : ∀ i, aB (wd i) (64 * w + j) = xB (wd i w) j := fun i => aB_at (wd i) hj
  rcases (show k = 0 ∨ k = 1 ∨ k = 2 ∨ k = 3 ∨ k = 4 ∨ k = 5 ∨ k = 6 ∨ k = 7 ∨ k = 8 ∨ k = 9 ∨ k = 10 by omega) with e | e | e | e | e | e | e | e | e | e | e <;> subst e
  · show xB (if w / 12 = a then -1 else 0) j = decide ((64 * w + j) / 768 = a)
    rw [xB_if hj, show (64 * w + j) / 768 = w / 12 by omega]
  · show xB (if mm (w / 12 * 8 + a) = true then -1 else 0) j = mm ((64 * w + j) / 768 * 8 + a)
    rw [xB_if hj, show (64 * w + j) / 768 = w / 12 by omega]
    cases mm (w / 12 * 8 + a) <;> rfl
  · show xB (if w % 12 / 3 = a then -1 else 0) j = decide ((64 * w + j) / 192 % 4 = a)
    rw [xB_if hj, show (64 * w + j) / 192 % 4 = w % 12 / 3 by omega]
  · have h3 := h3 rfl
    show xB (if w % 3 = a / 2 then shl 4294967295 (a % 2 * 4 * 8) else 0) j = decide ((64 * w + j) / 32 % 6 = a)
    rw [show (64 * w + j) / 32 % 6 = 2 * (w % 3) + j / 32 by omega]
    by_cases h : w % 3 = a / 2
    · rw [if_pos h, xB_prd (a % 2) (by omega) j hj]
      apply decide_eq_decide.mpr
      omega
    · rw [if_neg h, xB_0]
      exact (decide_eq_false (by omega)).symm
  · have h4 := h4 rfl
    show xB (shl 1095216660735 (a * 8)) j = decide ((64 * w + j) / 8 % 4 = a)
    rw [xB_cls a h4 j hj, show (64 * w + j) / 8 % 4 = j / 8 % 4 by omega]
  · have h5 := h5 rfl
    show xB (vfR a b 8) j = decide (a ≤ (64 * w + j) % 8 ∧ (64 * w + j) % 8 ≤ b)
    rw [xB_vf a (by omega) b h5.2 j hj, show (64 * w + j) % 8 = j % 8 by omega]
  · show xB (wd a w ^^^ (-1)) j = !aB (wd a) (64 * w + j)
    rw [xB_not _ hj, hat]
  · show xB (wd a w &&& wd b w) j = (aB (wd a) (64 * w + j) && aB (wd b) (64 * w + j))
    rw [xB_and, hat, hat]
  · show xB (wd a w ||| wd b w) j = (aB (wd a) (64 * w + j) || aB (wd b) (64 * w + j))
    rw [xB_or, hat, hat]
  · exact xB_m1 j hj
  · show xB (two3 (wd a w) (wd b w) (wd c w)) j = (((aB (wd a) (64 * w + j) && aB (wd b) (64 * w + j)) || (aB (wd a) (64 * w + j) && aB (wd c) (64 * w + j))) || (aB (wd b) (64 * w + j) && aB (wd c) (64 * w + j)))
    unfold two3
    rw [xB_or, xB_or, xB_and, xB_and, xB_and, hat, hat, hat]
end
section
/-! Pictures of the desk, and what keeps them. -/
theorem Kp.mono {S S2 : Nat → Prop} {L : List Nat} {f : Nat → va_E} {u : WU} (h : Kp S L f u) (hs : ∀ a, S a → S2 a) : Kp S2 L f u := fun a e ha hn => h a e ha (fun q => hn (hs a q))
/-- cells of the condition book, of the rule book -/
def cT (e : va_E) : Bool := match e with
  | .inr (i, _) => decide (i = 0 ∨ i = 1)
  | .inl (_, n, _) => decide (n = 60 ∨ n = 64 ∨ n = 96)
def rT (e : va_E) : Bool := match e with
  | .inr (i, _) => decide (i = 2 ∨ i = 3)
  | .inl (_, n, _) => decide (n = 20)
theorem CoB.keep {G : GG} {L L' : List Nat} {f f' : Nat → va_E} {cb mA gA n : Nat} {ad wa kd : Nat → Nat} {ka kb kc : Nat → Int32} {wd : Nat → Nat → Int64} {mm : Nat → Bool} {S : Nat → Prop} (h : CoB G L f cb mA gA n ad wa kd ka kb kc wd mm) (hk : Kp S L f (L', f')) (hs : ∀ a e, Lk L f a e → cT e = true → ¬ S a) : CoB G L' f' cb mA gA n ad wa kd ka kb kc wd mm := by
  obtain ⟨h0, h1, h2, h3, h4⟩ := h
  refine ⟨h0, hk.k h1 (hs _ _ h1 rfl), hk.k h2 (hs _ _ h2 rfl), hk.k h3 (hs _ _ h3 rfl), fun i hi => ?_⟩
  obtain ⟨a1, a2⟩ := h4 i hi
  exact ⟨hk.k a1 (hs _ _ a1 rfl), hk.k a2 (hs _ _ a2 rfl)⟩
/-- the rules alone: their conditions by number -/
def RuB0 (G : GG) (L : List Nat) (f : Nat → va_E) (rb rA n : Nat) (rad rc rk nu : Nat → Nat) (dn : Nat → Bool) (ad : Nat → Nat) : Prop :=
  n ≤ 20 ∧ Lk L f rb (.inr (3, [.ref rA, .int (nI n)])) ∧ Lk L f rA (.inl (G.2 3, 20, .inr (.inr (.inr (.inr (upto n rad)))))) ∧
  ∀ q, q < n → rk q < 10 ∧ nu q < 20 ∧ Lk L f (rad q) (.inr (2, [.int (nI (rk q)), .int (bI (dn q)), .ref (ad (rc q)), .int (nI (nu q))]))
theorem RuB0.keep {G : GG} {L L' : List Nat} {f f' : Nat → va_E} {rb rA n : Nat} {rad rc rk nu ad : Nat → Nat} {dn : Nat → Bool} {S : Nat → Prop} (h : RuB0 G L f rb rA n rad rc rk nu dn ad) (hk : Kp S L f (L', f')) (hs : ∀ a e, Lk L f a e → rT e = true → ¬ S a) : RuB0 G L' f' rb rA n rad rc rk nu dn ad := by
  obtain ⟨h0, h1, h2, h3⟩ := h
  refine ⟨h0, hk.k h1 (hs _ _ h1 rfl), hk.k h2 (hs _ _ h2 rfl), fun q hq => ?_⟩
  obtain ⟨a1, a2, a3⟩ := h3 q hq
  exact ⟨a1, a2, hk.k a3 (hs _ _ a3 rfl)⟩
theorem RuB_of {G : GG} {L : List Nat} {f : Nat → va_E} {cb mA gA cn rb rA n : Nat} {ad wa kd rad rc rk nu : Nat → Nat} {ka kb kc : Nat → Int32} {wd : Nat → Nat → Int64} {mm dn : Nat → Bool} (hC : CoB G L f cb mA gA cn ad wa kd ka kb kc wd mm) (hR : RuB0 G L f rb rA n rad rc rk nu dn ad) (hc : ∀ q, q < n → rc q < cn) : RuB G L f rb rA n rad (fun q => ad (rc q)) (fun q => wa (rc q)) rk nu dn (fun q => wd (rc q)) := by
  obtain ⟨h0, h1, h2, h3⟩ := hR
  refine ⟨h0, h1, h2, fun q hq => ?_⟩
  obtain ⟨a1, a2, a3⟩ := h3 q hq
  obtain ⟨b1, b2⟩ := hC.2.2.2.2 (rc q) (hc q hq)
  exact ⟨a1, a2, a3, ⟨_, _, _, _, b1⟩, b2⟩
/-- an address of another kind -/
theorem cT_ne {L : List Nat} {f : Nat → va_E} {x : Nat} {ex : va_E} (hx : Lk L f x ex) (h : cT ex = false) : ∀ a e, Lk L f a e → cT e = true → ¬ a = x := fun a e ha hc q => by
  subst q
  rw [← ha.2, hx.2, h] at hc
  cases hc
theorem rT_ne {L : List Nat} {f : Nat → va_E} {x : Nat} {ex : va_E} (hx : Lk L f x ex) (h : rT ex = false) : ∀ a e, Lk L f a e → rT e = true → ¬ a = x := fun a e ha hc q => by
  subst q
  rw [← ha.2, hx.2, h] at hc
  cases hc
theorem Lk.ni {L : List Nat} {f : Nat → va_E} {a q : Nat} {e : va_E} (h : Lk L f a e) (hq : q ∉ L) : ¬ a = q := fun z => hq (z ▸ h.1)
theorem upto_snoc (n : Nat) (ad : Nat → Nat) (q : Nat) : va_up (upto n ad) n (some q) = upto (n + 1) (va_up ad n q) := by
  funext i
  unfold upto
  by_cases h : i = n
  · subst h
    rw [va_up_self, if_pos (by omega), va_up_self]
  · rw [va_up_ne _ _ h]
    by_cases h2 : i < n
    · rw [if_pos h2, if_pos (by omega), va_up_ne _ _ h]
    · rw [if_neg h2, if_neg (by omega)]
theorem CoB_snoc {G : GG} {L L' : List Nat} {f f' : Nat → va_E} {cb mA gA n : Nat} {ad wa kd : Nat → Nat} {ka kb kc : Nat → Int32} {wd : Nat → Nat → Int64} {mm : Nat → Bool} {q z k : Nat} {xa xb xc : Int32} {g : Nat → Int64} (hB : CoB G L f cb mA gA n ad wa kd ka kb kc wd mm) (hn : n < 60) (hk : Kp (fun a => a = cb ∨ a = mA) L f (L', f'))
    (h1 : Lk L' f' cb (.inr (1, [.ref mA, .ref gA, .int (nI (n + 1))]))) (h2 : Lk L' f' mA (.inl (G.2 2, 60, .inr (.inr (.inr (.inr (va_up (upto n ad) n (some q)))))))) (h3 : Lk L' f' q (.inr (0, [.int (nI k), .int xa, .int xb, .int xc, .ref z]))) (h4 : Lk L' f' z (.inl (G.2 0, 96, .inr (.inl g)))) :
    CoB G L' f' cb mA gA (n + 1) (va_up ad n q) (va_up wa n z) (va_up kd n k) (va_up ka n xa) (va_up kb n xb) (va_up kc n xc) (va_up wd n g) mm := by
  obtain ⟨b0, b1, b2, b3, b4⟩ := hB
  rw [upto_snoc] at h2
  refine ⟨by omega, h1, h2, hk.k b3 (fun q => ?_), fun i hi => ?_⟩
  · rcases q with q | q
    · exact Lk.neOA b1 b3 q.symm
    · exact Lk.neAA b3 b2 (by decide) q
  · by_cases h : i = n
    · subst h
      simp only [va_up_self]
      exact ⟨h3, h4⟩
    · simp only [va_up_ne _ _ h]
      obtain ⟨a1, a2⟩ := b4 i (by omega)
      refine ⟨hk.k a1 (fun q => ?_), hk.k a2 (fun q => ?_)⟩
      · rcases q with q | q
        · exact Lk.neOO a1 b1 (by decide) q
        · exact Lk.neOA a1 b2 q
      · rcases q with q | q
        · exact Lk.neOA b1 a2 q.symm
        · exact Lk.neAA a2 b2 (by decide) q
/-- different conditions lie at different addresses -/
def inj (n : Nat) (g : Nat → Nat) : Prop := ∀ i j, i < n → j < n → g i = g j → i = j
theorem CoB_setw {G : GG} {L : List Nat} {f : Nat → va_E} {cb mA gA n : Nat} {ad wa kd : Nat → Nat} {ka kb kc : Nat → Int32} {wd : Nat → Nat → Int64} {mm : Nat → Bool} (hB : CoB G L f cb mA gA n ad wa kd ka kb kc wd mm) (hI : inj n wa) {i : Nat} (hi : i < n) (g : Nat → Int64) :
    CoB G L (va_up f (wa i) (.inl (G.2 0, 96, .inr (.inl g)))) cb mA gA n ad wa kd ka kb kc (va_up wd i g) mm := by
  obtain ⟨b0, b1, b2, b3, b4⟩ := hB
  have hw := (b4 i hi).2
  refine ⟨b0, b1.up (Lk.neOA b1 hw), b2.up (Lk.neAA b2 hw (by decide)), b3.up (Lk.neAA b3 hw (by decide)), fun j hj => ?_⟩
  obtain ⟨a1, a2⟩ := b4 j hj
  refine ⟨a1.up (Lk.neOA a1 hw), ?_⟩
  by_cases h : j = i
  · subst h
    rw [va_up_self]
    exact hw.set
  · rw [va_up_ne _ _ h]
    exact a2.up (fun q => h (hI j i hj hi q))
theorem CoB_setm {G : GG} {L : List Nat} {f : Nat → va_E} {cb mA gA n : Nat} {ad wa kd : Nat → Nat} {ka kb kc : Nat → Int32} {wd : Nat → Nat → Int64} {mm : Nat → Bool} (hB : CoB G L f cb mA gA n ad wa kd ka kb kc wd mm) (k : Nat) (b : Bool) :
    CoB G L (va_up f gA (.inl (G.2 1, 64, .inl (upd (fun k => bI (mm k)) k (bI b))))) cb mA gA n ad wa kd ka kb kc wd (va_up mm k b) := by
  obtain ⟨b0, b1, b2, b3, b4⟩ := hB
  have e : upd (fun k => bI (mm k)) k (bI b) = fun j => bI (va_up mm k b j) := by
    funext j
    by_cases h : j = k
    · subst h
      rw [va_up_self]
      exact if_pos rfl
    · rw [va_up_ne _ _ h]
      exact if_neg h
  rw [e]
  refine ⟨b0, b1.up (Lk.neOA b1 b3), b2.up (Lk.neAA b2 b3 (by decide)), b3.set, fun j hj => ?_⟩
  obtain ⟨a1, a2⟩ := b4 j hj
  exact ⟨a1.up (Lk.neOA a1 b3), a2.up (Lk.neAA a2 b3 (by decide))⟩
/-- the words are what the conditions say -/
def OkW (n : Nat) (kd ca cb cc : Nat → Nat) (wd : Nat → Nat → Int64) (mm : Nat → Bool) : Prop := ∀ i, i < n → ∀ w, w < 96 → wd i w = wrd mm wd (kd i) (ca i) (cb i) (cc i) w
def OkN (n : Nat) (kd : Nat → Nat) (ka kb kc : Nat → Int32) (ca cb cc : Nat → Nat) : Prop := ∀ i, i < n → okC i (kd i) (ka i) (kb i) (kc i) (ca i) (cb i) (cc i)
/-- a word looks at words of lesser conditions alone -/
theorem wrd_congr {mm : Nat → Bool} {wd wd' : Nat → Nat → Int64} {n k a b c w : Nat} {xa xb xc : Int32} (ho : okC n k xa xb xc a b c) (h : ∀ j, j < n → wd j w = wd' j w) : wrd mm wd k a b c w = wrd mm wd' k a b c w := by
  obtain ⟨hk, -, -, -, -, -, -, -, -, -, h6, h7, h10⟩ := ho
  unfold wrd
  rcases (show k = 0 ∨ k = 1 ∨ k = 2 ∨ k = 3 ∨ k = 4 ∨ k = 5 ∨ k = 6 ∨ k = 7 ∨ k = 8 ∨ k = 9 ∨ k = 10 by omega) with e | e | e | e | e | e | e | e | e | e | e <;> subst e
  · rfl
  · rfl
  · rfl
  · rfl
  · rfl
  · rfl
  · show wd a w ^^^ (-1) = wd' a w ^^^ (-1)
    rw [h a (h6 rfl)]
  · show wd a w &&& wd b w = wd' a w &&& wd' b w
    rw [h a (h7 (Or.inl rfl)).1, h b (h7 (Or.inl rfl)).2]
  · show wd a w ||| wd b w = wd' a w ||| wd' b w
    rw [h a (h7 (Or.inr rfl)).1, h b (h7 (Or.inr rfl)).2]
  · rfl
  · show two3 (wd a w) (wd b w) (wd c w) = two3 (wd' a w) (wd' b w) (wd' c w)
    rw [h a (h10 rfl).1, h b (h10 rfl).2.1, h c (h10 rfl).2.2]
theorem wrd_mm {mm mm' : Nat → Bool} {wd : Nat → Nat → Int64} {k a b c w : Nat} (h : k = 1 → mm (w / 12 * 8 + a) = mm' (w / 12 * 8 + a)) : wrd mm wd k a b c w = wrd mm' wd k a b c w := by
  by_cases hk : k = 1
  · unfold wrd
    rw [h hk]
  · unfold wrd
    by_cases h0 : k = 0
    · rw [if_pos h0, if_pos h0]
    · rw [if_neg h0, if_neg h0, if_neg hk, if_neg hk]
theorem Kp.notin {S : Nat → Prop} {L L' : List Nat} {f f' : Nat → va_E} {q : Nat} (h : Kp S L f (L', f')) (hq : q ∉ L') (hs : ¬ S q) : q ∉ L := fun z => hq (h q (f q) ⟨z, rfl⟩ hs).1
theorem va_up_id {α : Type} {f : Nat → α} {a : Nat} {e : α} (h : f a = e) : f = va_up f a e := by
  funext x
  by_cases hx : x = a
  · rw [hx, va_up_self, h]
  · rw [va_up_ne _ _ hx]
theorem okC_mono {n n' k a b c : Nat} {xa xb xc : Int32} (h : okC n k xa xb xc a b c) (hn : n ≤ n') : okC n' k xa xb xc a b c := by
  obtain ⟨h0, h1, h2, h3, h4, h5, h6, h7, h8, h9, h10, h11, h12⟩ := h
  exact ⟨h0, h1, h2, h3, h4, h5, h6, h7, h8, h9, fun q => by have := h10 q; omega, fun q => by have := h11 q; omega, fun q => by have := h12 q; omega⟩
/-- what holds of the words while those of person u are worked out again: conditions below i are done, of condition i the first t words -/
def OkP (n : Nat) (kd ca cb cc : Nat → Nat) (wd : Nat → Nat → Int64) (mm : Nat → Bool) (u i t : Nat) : Prop :=
  ∀ j, j < n → ∀ w, w < 96 → (w / 12 ≠ u ∨ j < i ∨ (j = i ∧ w < u * 12 + t)) → wd j w = wrd mm wd (kd j) (ca j) (cb j) (cc j) w
theorem OkP_step {n : Nat} {kd ca cb cc : Nat → Nat} {ka kb kc : Nat → Int32} {wd : Nat → Nat → Int64} {mm : Nat → Bool} {u i t : Nat} (hO : OkN n kd ka kb kc ca cb cc) (h : OkP n kd ca cb cc wd mm u i t) (hi : i < n) (hu : u < 8) (ht : t < 12) :
    OkP n kd ca cb cc (va_up wd i (vp_updL (wd i) (u * 12 + t) (wrd mm wd (kd i) (ca i) (cb i) (cc i) (u * 12 + t)))) mm u i (t + 1) := by
  intro j hj w hw hc
  have hlow : ∀ w' j', j' ≠ i ∨ w' ≠ u * 12 + t → va_up wd i (vp_updL (wd i) (u * 12 + t) (wrd mm wd (kd i) (ca i) (cb i) (cc i) (u * 12 + t))) j' w' = wd j' w' := by
    intro w' j' hh
    by_cases e : j' = i
    · subst e
      rw [va_up_self]
      exact if_neg (hh.resolve_left (fun q => q rfl))
    · rw [va_up_ne _ _ e]
  have hcg : (∀ j', j' < j → j' ≠ i ∨ w ≠ u * 12 + t) → wrd mm (va_up wd i (vp_updL (wd i) (u * 12 + t) (wrd mm wd (kd i) (ca i) (cb i) (cc i) (u * 12 + t)))) (kd j) (ca j) (cb j) (cc j) w = wrd mm wd (kd j) (ca j) (cb j) (cc j) w :=
    fun hh => wrd_congr (hO j hj) (fun j' hj' => hlow w j' (hh j' hj'))
  by_cases e : j = i ∧ w = u * 12 + t
  · obtain ⟨e1, e2⟩ := e
    subst e1
    subst e2
    rw [hcg (fun j' hj' => Or.inl (by omega)), va_up_self]
    exact if_pos rfl
  · rw [hlow w j (by omega), hcg (fun j' hj' => ?_)]
    · exact h j hj w hw (by omega)
    · rcases hc with q | q | q
      · right
        omega
      · left
        omega
      · left
        omega
theorem OkP_next {n : Nat} {kd ca cb cc : Nat → Nat} {wd : Nat → Nat → Int64} {mm : Nat → Bool} {u i : Nat} (h : OkP n kd ca cb cc wd mm u i 12) : OkP n kd ca cb cc wd mm u (i + 1) 0 := fun j hj w hw hc => h j hj w hw (by omega)
theorem OkP_end {n : Nat} {kd ca cb cc : Nat → Nat} {wd : Nat → Nat → Int64} {mm : Nat → Bool} {u i t : Nat} (h : OkP n kd ca cb cc wd mm u i t) (hi : n ≤ i) : OkW n kd ca cb cc wd mm := fun j hj w hw => h j hj w hw (Or.inr (Or.inl (by omega)))
/-! ### the row of rules: one comes in, one goes -/
def insA {α : Type} (g : Nat → α) (pl : Nat) (v : α) : Nat → α := fun x => if x < pl then g x else if x = pl then v else g (x - 1)
def delA {α : Type} (g : Nat → α) (pl : Nat) : Nat → α := fun x => if x < pl then g x else g (x + 1)
/-- places above p moved up by one -/
def shU (p : Nat) (mk : Nat → Option Nat) : Nat → Option Nat := fun x => if p < x ∧ x < 20 then mk (x - 1) else mk x
/-- places from pl to p moved down by one -/
def shD (pl p : Nat) (mk : Nat → Option Nat) : Nat → Option Nat := fun x => if pl ≤ x ∧ x < p then mk (x + 1) else mk x
theorem shU_0 (mk : Nat → Option Nat) : mk = shU 19 mk := by
  funext x
  exact (if_neg (by omega)).symm
theorem shU_s {p : Nat} (hp : p + 1 < 20) (mk : Nat → Option Nat) : va_up (shU (p + 1) mk) (p + 1) (mk p) = shU p mk := by
  funext x
  unfold shU
  by_cases h : x = p + 1
  · subst h
    rw [va_up_self, if_pos (by omega)]
    rfl
  · rw [va_up_ne _ _ h]
    by_cases h2 : p + 1 < x ∧ x < 20
    · rw [if_pos h2, if_pos (by omega)]
    · rw [if_neg h2, if_neg (by omega)]
theorem shU_at {p x : Nat} (h : x ≤ p) (mk : Nat → Option Nat) : shU p mk x = mk x := if_neg (by omega)
theorem shU_end {n pl : Nat} (hn : n < 20) (hp : pl ≤ n) (rad : Nat → Nat) (q : Nat) : va_up (shU pl (upto n rad)) pl (some q) = upto (n + 1) (insA rad pl q) := by
  funext x
  unfold shU upto insA
  by_cases h : x = pl
  · subst h
    rw [va_up_self, if_pos (by omega), if_neg (by omega), if_pos rfl]
  · rw [va_up_ne _ _ h]
    by_cases h2 : pl < x ∧ x < 20
    · rw [if_pos h2]
      by_cases h3 : x - 1 < n
      · rw [if_pos h3, if_pos (by omega), if_neg (by omega), if_neg h]
      · rw [if_neg h3, if_neg (by omega)]
    · rw [if_neg h2]
      by_cases h3 : x < n
      · rw [if_pos h3, if_pos (by omega), if_pos (by omega)]
      · rw [if_neg h3, if_neg (by omega)]
theorem shD_0 (pl : Nat) (mk : Nat → Option Nat) : mk = shD pl pl mk := by
  funext x
  exact (if_neg (by omega)).symm
theorem shD_s {pl p : Nat} (hp : pl ≤ p) (mk : Nat → Option Nat) : va_up (shD pl p mk) p (mk (p + 1)) = shD pl (p + 1) mk := by
  funext x
  unfold shD
  by_cases h : x = p
  · subst h
    rw [va_up_self, if_pos (by omega)]
  · rw [va_up_ne _ _ h]
    by_cases h2 : pl ≤ x ∧ x < p
    · rw [if_pos h2, if_pos (by omega)]
    · rw [if_neg h2, if_neg (by omega)]
theorem shD_at {pl p x : Nat} (h : p ≤ x) (mk : Nat → Option Nat) : shD pl p mk x = mk x := if_neg (by omega)
theorem shD_end {n pl : Nat} (hn : n ≤ 20) (hp : pl < n) (rad : Nat → Nat) : va_up (shD pl 19 (upto n rad)) 19 none = upto (n - 1) (delA rad pl) := by
  funext x
  unfold shD upto delA
  by_cases h : x = 19
  · subst h
    rw [va_up_self, if_neg (by omega)]
  · rw [va_up_ne _ _ h]
    by_cases h2 : pl ≤ x ∧ x < 19
    · rw [if_pos h2]
      by_cases h3 : x + 1 < n
      · rw [if_pos h3, if_pos (by omega), if_neg (by omega)]
      · rw [if_neg h3, if_neg (by omega)]
    · rw [if_neg h2]
      by_cases h3 : x < n
      · rw [if_pos h3, if_pos (by omega), if_pos (by omega)]
      · rw [if_neg h3, if_neg (by omega)]
theorem insA_lt {α : Type} {g : Nat → α} {pl : Nat} {v : α} {x : Nat} (h : x < pl) : insA g pl v x = g x := if_pos h
theorem insA_eq {α : Type} {g : Nat → α} {pl : Nat} {v : α} : insA g pl v pl = v := by
  unfold insA
  rw [if_neg (by omega), if_pos rfl]
theorem insA_gt {α : Type} {g : Nat → α} {pl : Nat} {v : α} {x : Nat} (h : pl < x) : insA g pl v x = g (x - 1) := by
  unfold insA
  rw [if_neg (by omega), if_neg (by omega)]
theorem RuB0_ins {G : GG} {L L' : List Nat} {f f' : Nat → va_E} {rb rA n pl r0 c0 fr : Nat} {d0 : Bool} {rad rc rk nu ad : Nat → Nat} {dn : Nat → Bool} (h : RuB0 G L f rb rA n rad rc rk nu dn ad) (hn : n < 20) (hp : pl ≤ n) (hr0 : r0 < 10) (hk : Kp (fun a => a = rb ∨ a = rA) L f (L', f'))
    (h1 : Lk L' f' rb (.inr (3, [.ref rA, .int (nI (n + 1))]))) (h2 : Lk L' f' rA (.inl (G.2 3, 20, .inr (.inr (.inr (.inr (va_up (shU pl (upto n rad)) pl (some fr)))))))) (h3 : Lk L' f' fr (.inr (2, [.int (nI r0), .int (bI d0), .ref (ad c0), .int (nI n)]))) :
    RuB0 G L' f' rb rA (n + 1) (insA rad pl fr) (insA rc pl c0) (insA rk pl r0) (insA nu pl n) (insA dn pl d0) ad := by
  obtain ⟨b0, b1, b2, b3⟩ := h
  rw [shU_end hn hp] at h2
  have old : ∀ q, q < n → Lk L' f' (rad q) (.inr (2, [.int (nI (rk q)), .int (bI (dn q)), .ref (ad (rc q)), .int (nI (nu q))])) := fun q hq => by
    have a := (b3 q hq).2.2
    refine hk.k a (fun z => ?_)
    rcases z with z | z
    · exact Lk.neOO a b1 (by decide) z
    · exact Lk.neOA a b2 z
  refine ⟨by omega, h1, h2, fun q hq => ?_⟩
  rcases Nat.lt_trichotomy q pl with z | z | z
  · simp only [insA_lt z]
    exact ⟨(b3 q (by omega)).1, (b3 q (by omega)).2.1, old q (by omega)⟩
  · subst z
    simp only [insA_eq]
    exact ⟨hr0, hn, h3⟩
  · simp only [insA_gt z]
    exact ⟨(b3 (q - 1) (by omega)).1, (b3 (q - 1) (by omega)).2.1, old (q - 1) (by omega)⟩
/-- a number less, where it was above x -/
def dec1 (x m : Nat) : Nat := if x < m then m - 1 else m
theorem RuB0_del {G : GG} {L : List Nat} {f f' : Nat → va_E} {rb rA n pl : Nat} {rad rc rk nu ad : Nat → Nat} {dn : Nat → Bool} (h : RuB0 G L f rb rA n rad rc rk nu dn ad) (hp : pl < n) (hk : Kp (fun a => a = rb ∨ a = rA) L f (L, f'))
    (h1 : Lk L f' rb (.inr (3, [.ref rA, .int (nI (n - 1))]))) (h2 : Lk L f' rA (.inl (G.2 3, 20, .inr (.inr (.inr (.inr (va_up (shD pl 19 (upto n rad)) 19 none))))))) :
    RuB0 G L f' rb rA (n - 1) (delA rad pl) (delA rc pl) (delA rk pl) (delA nu pl) (delA dn pl) ad := by
  obtain ⟨b0, b1, b2, b3⟩ := h
  rw [shD_end b0 hp] at h2
  have old : ∀ q, q < n → Lk L f' (rad q) (.inr (2, [.int (nI (rk q)), .int (bI (dn q)), .ref (ad (rc q)), .int (nI (nu q))])) := fun q hq => by
    have a := (b3 q hq).2.2
    refine hk.k a (fun z => ?_)
    rcases z with z | z
    · exact Lk.neOO a b1 (by decide) z
    · exact Lk.neOA a b2 z
  refine ⟨by omega, h1, h2, fun q hq => ?_⟩
  unfold delA
  by_cases z : q < pl
  · simp only [if_pos z]
    exact ⟨(b3 q (by omega)).1, (b3 q (by omega)).2.1, old q (by omega)⟩
  · simp only [if_neg z]
    exact ⟨(b3 (q + 1) (by omega)).1, (b3 (q + 1) (by omega)).2.1, old (q + 1) (by omega)⟩
theorem RuB0_setnu {G : GG} {L : List Nat} {f : Nat → va_E} {rb rA n : Nat} {rad rc rk nu ad : Nat → Nat} {dn : Nat → Bool} (h : RuB0 G L f rb rA n rad rc rk nu dn ad) (hI : inj n rad) {q : Nat} (hq : q < n) {m : Nat} (hm : m < 20) :
    RuB0 G L (va_up f (rad q) (.inr (2, [.int (nI (rk q)), .int (bI (dn q)), .ref (ad (rc q)), .int (nI m)]))) rb rA n rad rc rk (va_up nu q m) dn ad := by
  obtain ⟨b0, b1, b2, b3⟩ := h
  have a := (b3 q hq).2.2
  refine ⟨b0, b1.up (Lk.neOO b1 a (by decide)), b2.up (fun z => Lk.neOA a b2 z.symm), fun j hj => ?_⟩
  obtain ⟨c1, c2, c3⟩ := b3 j hj
  by_cases z : j = q
  · subst z
    rw [va_up_self]
    exact ⟨c1, hm, a.set⟩
  · rw [va_up_ne _ _ z]
    exact ⟨c1, c2, c3.up (fun y => z (hI j q hj hq y))⟩
theorem isPl_some {n r0 : Nat} {d0 : Bool} {rk : Nat → Nat} {dn : Nat → Bool} (h : n < 20) : ∃ pl, fst0 (isPl n r0 d0 rk dn) 20 0 = some pl ∧ pl ≤ n := by
  have hn : isPl n r0 d0 rk dn n = true := isPl_t1 (Nat.le_refl n)
  cases e : fst0 (isPl n r0 d0 rk dn) 20 0 with
  | none =>
    rw [fst0_n e n (by omega) (by omega)] at hn
    cases hn
  | some pl =>
    refine ⟨pl, rfl, ?_⟩
    rcases Nat.lt_or_ge n pl with q | q
    · rw [(fst0_s e).2.2.2 n (by omega) q] at hn
      cases hn
    · exact q
theorem inj_del {n pl : Nat} {g : Nat → Nat} (h : inj n g) (hp : pl < n) : inj (n - 1) (delA g pl) := by
  intro i j hi hj e
  unfold delA at e
  by_cases a : i < pl <;> by_cases b : j < pl
  · rw [if_pos a, if_pos b] at e
    exact h i j (by omega) (by omega) e
  · rw [if_pos a, if_neg b] at e
    have := h i (j + 1) (by omega) (by omega) e
    omega
  · rw [if_neg a, if_pos b] at e
    have := h (i + 1) j (by omega) (by omega) e
    omega
  · rw [if_neg a, if_neg b] at e
    have := h (i + 1) (j + 1) (by omega) (by omega) e
    omega
/-- the first k numbers done -/
def decK (x k : Nat) (nu : Nat → Nat) : Nat → Nat := fun j => if j < k then dec1 x (nu j) else nu j
theorem decK_0 (x : Nat) (nu : Nat → Nat) : nu = decK x 0 nu := by
  funext j
  exact (if_neg (by omega)).symm
theorem decK_at {x k : Nat} {nu : Nat → Nat} : decK x k nu k = nu k := if_neg (by omega)
theorem decK_s (x k : Nat) (nu : Nat → Nat) : va_up (decK x k nu) k (dec1 x (nu k)) = decK x (k + 1) nu := by
  funext j
  unfold decK
  by_cases h : j = k
  · subst h
    rw [va_up_self, if_pos (by omega)]
  · rw [va_up_ne _ _ h]
    by_cases h2 : j < k
    · rw [if_pos h2, if_pos (by omega)]
    · rw [if_neg h2, if_neg (by omega)]
theorem decK_same {x k : Nat} {nu : Nat → Nat} (h : ¬ x < nu k) : decK x k nu = decK x (k + 1) nu := by
  rw [← decK_s, show dec1 x (nu k) = nu k from if_neg h]
  exact va_up_id decK_at
theorem delA_mem {n pl j : Nat} {g : Nat → Nat} (hj : j < n - 1) (hp : pl < n) : ∃ q, q < n ∧ delA g pl j = g q := by
  unfold delA
  by_cases h : j < pl
  · exact ⟨j, by omega, if_pos h⟩
  · exact ⟨j + 1, by omega, if_neg h⟩
theorem RuB0_nuc {G : GG} {L : List Nat} {f : Nat → va_E} {rb rA n : Nat} {rad rc rk nu nu' ad : Nat → Nat} {dn : Nat → Bool} (h : RuB0 G L f rb rA n rad rc rk nu dn ad) (e : ∀ q, q < n → nu q = nu' q) : RuB0 G L f rb rA n rad rc rk nu' dn ad := by
  obtain ⟨b0, b1, b2, b3⟩ := h
  refine ⟨b0, b1, b2, fun q hq => ?_⟩
  rw [← e q hq]
  exact b3 q hq
/-- what canBe lets through -/
theorem cOK_ok {n : Nat} (hn : n ≤ 60) {x1 x2 x3 x4 : Int32} (h : cOK n x1 x2 x3 x4 = true) : ∃ k a b c, x1 = nI k ∧ okC n k x2 x3 x4 a b c := by
  have one : ∀ {N : Nat}, N < 2 ^ 31 → blw x2 (nI N) = true → ∃ a, a < N ∧ x2 = nI a := fun hN h => blw_of hN h
  rcases k11 x1 with e | e | e | e | e | e | e | e | e | e | e | hk
  · subst e
    obtain ⟨a, ha, e⟩ := blw_of (n := 8) (by omega) h
    exact ⟨0, a, 0, 0, rfl, by omega, fun _ => e, fun q => by omega, fun q => by omega, fun _ => ha, fun q => by omega, fun q => by omega, fun q => by omega, fun q => by omega, fun q => by omega, fun q => by omega, fun q => by omega, fun q => by omega⟩
  · subst e
    obtain ⟨a, ha, e⟩ := blw_of (n := 8) (by omega) h
    exact ⟨1, a, 0, 0, rfl, by omega, fun _ => e, fun q => by omega, fun q => by omega, fun q => by omega, fun _ => ha, fun q => by omega, fun q => by omega, fun q => by omega, fun q => by omega, fun q => by omega, fun q => by omega, fun q => by omega⟩
  · subst e
    obtain ⟨a, ha, e⟩ := blw_of (n := 4) (by omega) h
    exact ⟨2, a, 0, 0, rfl, by omega, fun _ => e, fun q => by omega, fun q => by omega, fun q => by omega, fun q => by omega, fun _ => ha, fun q => by omega, fun q => by omega, fun q => by omega, fun q => by omega, fun q => by omega, fun q => by omega⟩
  · subst e
    obtain ⟨a, ha, e⟩ := blw_of (n := 6) (by omega) h
    exact ⟨3, a, 0, 0, rfl, by omega, fun _ => e, fun q => by omega, fun q => by omega, fun q => by omega, fun q => by omega, fun q => by omega, fun _ => ha, fun q => by omega, fun q => by omega, fun q => by omega, fun q => by omega, fun q => by omega⟩
  · subst e
    obtain ⟨a, ha, e⟩ := blw_of (n := 4) (by omega) h
    exact ⟨4, a, 0, 0, rfl, by omega, fun _ => e, fun q => by omega, fun q => by omega, fun q => by omega, fun q => by omega, fun q => by omega, fun q => by omega, fun _ => ha, fun q => by omega, fun q => by omega, fun q => by omega, fun q => by omega⟩
  · subst e
    have h : (blw x2 (nI 8) && (blw x3 (nI 8) && decide (x2 ≤ x3))) = true := h
    rw [Bool.and_eq_true, Bool.and_eq_true] at h
    obtain ⟨a, ha, e⟩ := blw_of (n := 8) (by omega) h.1
    obtain ⟨b, hb, e2⟩ := blw_of (n := 8) (by omega) h.2.1
    have hab := of_decide_eq_true h.2.2
    rw [e, e2] at hab
    have hab := (nI_leI (by omega) (by omega)).mp hab
    exact ⟨5, a, b, 0, rfl, by omega, fun _ => e, fun _ => e2, fun q => by omega, fun q => by omega, fun q => by omega, fun q => by omega, fun q => by omega, fun q => by omega, fun _ => ⟨hab, hb⟩, fun q => by omega, fun q => by omega, fun q => by omega⟩
  · subst e
    obtain ⟨a, ha, e⟩ := blw_of (n := n) (by omega) h
    exact ⟨6, a, 0, 0, rfl, by omega, fun _ => e, fun q => by omega, fun q => by omega, fun q => by omega, fun q => by omega, fun q => by omega, fun q => by omega, fun q => by omega, fun q => by omega, fun _ => ha, fun q => by omega, fun q => by omega⟩
  · subst e
    have h : (blw x2 (nI n) && blw x3 (nI n)) = true := h
    rw [Bool.and_eq_true] at h
    obtain ⟨a, ha, e⟩ := blw_of (n := n) (by omega) h.1
    obtain ⟨b, hb, e2⟩ := blw_of (n := n) (by omega) h.2
    exact ⟨7, a, b, 0, rfl, by omega, fun _ => e, fun _ => e2, fun q => by omega, fun q => by omega, fun q => by omega, fun q => by omega, fun q => by omega, fun q => by omega, fun q => by omega, fun q => by omega, fun _ => ⟨ha, hb⟩, fun q => by omega⟩
  · subst e
    have h : (blw x2 (nI n) && blw x3 (nI n)) = true := h
    rw [Bool.and_eq_true] at h
    obtain ⟨a, ha, e⟩ := blw_of (n := n) (by omega) h.1
    obtain ⟨b, hb, e2⟩ := blw_of (n := n) (by omega) h.2
    exact ⟨8, a, b, 0, rfl, by omega, fun _ => e, fun _ => e2, fun q => by omega, fun q => by omega, fun q => by omega, fun q => by omega, fun q => by omega, fun q => by omega, fun q => by omega, fun q => by omega, fun _ => ⟨ha, hb⟩, fun q => by omega⟩
  · subst e
    exact ⟨9, 0, 0, 0, rfl, by omega, fun q => absurd rfl q, fun q => by omega, fun q => by omega, fun q => by omega, fun q => by omega, fun q => by omega, fun q => by omega, fun q => by omega, fun q => by omega, fun q => by omega, fun q => by omega, fun q => by omega⟩
  · subst e
    have h : (blw x2 (nI n) && (blw x3 (nI n) && blw x4 (nI n))) = true := h
    rw [Bool.and_eq_true, Bool.and_eq_true] at h
    obtain ⟨a, ha, e⟩ := blw_of (n := n) (by omega) h.1
    obtain ⟨b, hb, e2⟩ := blw_of (n := n) (by omega) h.2.1
    obtain ⟨c, hc, e3⟩ := blw_of (n := n) (by omega) h.2.2
    exact ⟨10, a, b, c, rfl, by omega, fun _ => e, fun _ => e2, fun _ => e3, fun q => by omega, fun q => by omega, fun q => by omega, fun q => by omega, fun q => by omega, fun q => by omega, fun q => by omega, fun q => by omega, fun _ => ⟨ha, hb, hc⟩⟩
  · exfalso
    unfold cOK at h
    rw [if_neg (k11_no hk (show 0 < 11 by decide)), if_neg (k11_no hk (show 1 < 11 by decide)), if_neg (k11_no hk (show 2 < 11 by decide)), if_neg (k11_no hk (show 3 < 11 by decide)), if_neg (k11_no hk (show 4 < 11 by decide)), if_neg (k11_no hk (show 5 < 11 by decide)), if_neg (k11_no hk (show 6 < 11 by decide)), if_neg (k11_no hk (show 7 < 11 by decide)), if_neg (k11_no hk (show 8 < 11 by decide)), if_neg (k11_no hk (show 9 < 11 by decide)), if_neg (k11_no hk (show 10 < 11 by decide))] at h
    cases h
end
section
/-! What the document says, as functions: conditions by number, rules by number. -/
theorem hK_congr {mm : Nat → Bool} {h h' : Nat → Nat → Bool} {n k a b c q : Nat} {xa xb xc : Int32} (ho : okC n k xa xb xc a b c) (e : ∀ j, j < n → h j q = h' j q) : hK mm h k a b c q = hK mm h' k a b c q := by
  obtain ⟨hk, -, -, -, -, -, -, -, -, -, h6, h7, h10⟩ := ho
  unfold hK
  rcases (show k = 0 ∨ k = 1 ∨ k = 2 ∨ k = 3 ∨ k = 4 ∨ k = 5 ∨ k = 6 ∨ k = 7 ∨ k = 8 ∨ k = 9 ∨ k = 10 by omega) with z | z | z | z | z | z | z | z | z | z | z <;> subst z
  · rfl
  · rfl
  · rfl
  · rfl
  · rfl
  · rfl
  · show (!h a q) = !h' a q
    rw [e a (h6 rfl)]
  · show (h a q && h b q) = (h' a q && h' b q)
    rw [e a (h7 (Or.inl rfl)).1, e b (h7 (Or.inl rfl)).2]
  · show (h a q || h b q) = (h' a q || h' b q)
    rw [e a (h7 (Or.inr rfl)).1, e b (h7 (Or.inr rfl)).2]
  · rfl
  · show (((h a q && h b q) || (h a q && h c q)) || (h b q && h c q)) = (((h' a q && h' b q) || (h' a q && h' c q)) || (h' b q && h' c q))
    rw [e a (h10 rfl).1, e b (h10 rfl).2.1, e c (h10 rfl).2.2]
def hol (mm : Nat → Bool) (kd ca cb cc : Nat → Nat) : Nat → Nat → Nat → Bool
  | 0, _, _ => false
  | n + 1, i, q => hK mm (hol mm kd ca cb cc n) (kd i) (ca i) (cb i) (cc i) q
theorem hol_stab {n : Nat} {mm : Nat → Bool} {kd ca cb cc : Nat → Nat} {ka kb kc : Nat → Int32} (hO : OkN n kd ka kb kc ca cb cc) (q : Nat) : ∀ (m i : Nat), i < m → i < n → ∀ f, i < f → hol mm kd ca cb cc f i q = hol mm kd ca cb cc (i + 1) i q
  | 0, i, h, _, _, _ => absurd h (Nat.not_lt_zero i)
  | m + 1, i, h, hi, f, hf => by
    obtain ⟨g, rfl⟩ : ∃ g, f = g + 1 := ⟨f - 1, by omega⟩
    show hK mm (hol mm kd ca cb cc g) (kd i) (ca i) (cb i) (cc i) q = hK mm (hol mm kd ca cb cc i) (kd i) (ca i) (cb i) (cc i) q
    refine hK_congr (hO i hi) (fun j hj => ?_)
    rw [hol_stab hO q m j (by omega) (by omega) g (by omega), hol_stab hO q m j (by omega) (by omega) i hj]
/-- condition i holds for ask q -/
def hold (mm : Nat → Bool) (kd ca cb cc : Nat → Nat) (i q : Nat) : Bool := hol mm kd ca cb cc 60 i q
theorem hold_eq {n : Nat} {mm : Nat → Bool} {kd ca cb cc : Nat → Nat} {ka kb kc : Nat → Int32} (hO : OkN n kd ka kb kc ca cb cc) (hn : n ≤ 60) {i : Nat} (hi : i < n) (q : Nat) : hold mm kd ca cb cc i q = hK mm (hold mm kd ca cb cc) (kd i) (ca i) (cb i) (cc i) q := by
  unfold hold
  rw [hol_stab hO q (i + 1) i (by omega) hi 60 (by omega)]
  show hK mm (hol mm kd ca cb cc i) (kd i) (ca i) (cb i) (cc i) q = _
  refine hK_congr (hO i hi) (fun j hj => ?_)
  rw [hol_stab hO q (j + 1) j (by omega) (by omega) i hj, hol_stab hO q (j + 1) j (by omega) (by omega) 60 (by omega)]
theorem aB_hold {n : Nat} {mm : Nat → Bool} {kd ca cb cc : Nat → Nat} {ka kb kc : Nat → Int32} {wd : Nat → Nat → Int64} (hO : OkN n kd ka kb kc ca cb cc) (hW : OkW n kd ca cb cc wd mm) (hn : n ≤ 60) {q : Nat} (hq : q < 6144) : ∀ (m i : Nat), i < m → i < n → aB (wd i) q = hold mm kd ca cb cc i q
  | 0, i, h, _ => absurd h (Nat.not_lt_zero i)
  | m + 1, i, h, hi => by
    rw [hold_eq hO hn hi]
    have e : aB (wd i) q = hK mm (fun j => aB (wd j)) (kd i) (ca i) (cb i) (cc i) q := by
      unfold aB
      rw [hW i hi (q / 64) (by omega), wrd_ok (hO i hi) (Nat.mod_lt _ (by omega)), show 64 * (q / 64) + q % 64 = q by omega]
      rfl
    rw [e]
    exact hK_congr (hO i hi) (fun j hj => aB_hold hO hW hn hq m j (by omega) (by omega))
/-! ### the rule that decides -/
/-- of two rules, by rank, those that deny first, then by number -/
def klt (rk : Nat → Nat) (dn : Nat → Bool) (i j : Nat) : Prop := rk i < rk j ∨ (rk i = rk j ∧ ((dn i = true ∧ dn j = false) ∨ (dn i = dn j ∧ i < j)))
def pick (P : Nat → Bool) (rk : Nat → Nat) (dn : Nat → Bool) : Nat → Option Nat
  | 0 => none
  | n + 1 => match pick P rk dn n with
    | none => if P n = true then some n else none
    | some m => if (P n && gob (rk n) (dn n) (rk m) (dn m)) = true then some n else some m
theorem gob_iff {r1 r2 : Nat} {d1 d2 : Bool} : gob r1 d1 r2 d2 = true ↔ r1 < r2 ∨ (r1 = r2 ∧ d1 = true ∧ d2 = false) := by
  unfold gob
  rw [Bool.or_eq_true, Bool.and_eq_true, Bool.and_eq_true, decide_eq_true_iff, decide_eq_true_iff]
  cases d1 <;> cases d2 <;> simp
theorem pick_spec (P : Nat → Bool) (rk : Nat → Nat) (dn : Nat → Bool) : ∀ n, (pick P rk dn n = none ∧ ∀ j, j < n → P j = false) ∨ (∃ m, pick P rk dn n = some m ∧ m < n ∧ P m = true ∧ ∀ j, j < n → P j = true → j ≠ m → klt rk dn m j)
  | 0 => Or.inl ⟨rfl, fun j hj => absurd hj (Nat.not_lt_zero j)⟩
  | n + 1 => by
    rcases pick_spec P rk dn n with ⟨h1, h2⟩ | ⟨m, h1, h2, h3, h4⟩
    · have e : pick P rk dn (n + 1) = if P n = true then some n else none := by
        show (match pick P rk dn n with | none => if P n = true then some n else none | some m => if (P n && gob (rk n) (dn n) (rk m) (dn m)) = true then some n else some m) = _
        rw [h1]
      rw [e]
      by_cases hp : P n = true
      · rw [if_pos hp]
        refine Or.inr ⟨n, rfl, by omega, hp, fun j hj hpj hne => ?_⟩
        rw [h2 j (by omega)] at hpj
        cases hpj
      · rw [if_neg hp]
        refine Or.inl ⟨rfl, fun j hj => ?_⟩
        by_cases e2 : j = n
        · rw [e2]; exact ts_f hp
        · exact h2 j (by omega)
    · have e : pick P rk dn (n + 1) = if (P n && gob (rk n) (dn n) (rk m) (dn m)) = true then some n else some m := by
        show (match pick P rk dn n with | none => if P n = true then some n else none | some m => if (P n && gob (rk n) (dn n) (rk m) (dn m)) = true then some n else some m) = _
        rw [h1]
      rw [e]
      right
      by_cases hp : (P n && gob (rk n) (dn n) (rk m) (dn m)) = true
      · rw [if_pos hp]
        rw [Bool.and_eq_true] at hp
        obtain ⟨hp, hg⟩ := hp
        rw [gob_iff] at hg
        refine ⟨n, rfl, by omega, hp, fun j hj hpj hne => ?_⟩
        by_cases e2 : j = m
        · subst e2
          unfold klt
          rcases hg with z | ⟨z1, z2, z3⟩
          · exact Or.inl z
          · exact Or.inr ⟨z1, Or.inl ⟨z2, z3⟩⟩
        · have := h4 j (by omega) hpj e2
          unfold klt at this ⊢
          rcases this with y | ⟨y1, y2⟩
          · left
            rcases hg with z | ⟨z1, -⟩ <;> omega
          · rcases hg with z | ⟨z1, z2, z3⟩
            · left
              omega
            · right
              refine ⟨by omega, Or.inl ⟨z2, ?_⟩⟩
              rcases y2 with ⟨y3, y4⟩ | ⟨y3, y4⟩
              · rw [z3] at y3; cases y3
              · rw [← y3]; exact z3
      · rw [if_neg hp]
        refine ⟨m, rfl, by omega, h3, fun j hj hpj hne => ?_⟩
        by_cases e2 : j = n
        · subst e2
          rw [hpj, Bool.true_and] at hp
          have hp : ¬ (rk j < rk m ∨ (rk j = rk m ∧ dn j = true ∧ dn m = false)) := fun z => hp (gob_iff.mpr z)
          unfold klt
          by_cases r : rk m < rk j
          · exact Or.inl r
          · right
            refine ⟨by omega, ?_⟩
            cases hm : dn m with
            | true =>
              cases hj2 : dn j with
              | true => exact Or.inr ⟨rfl, h2⟩
              | false => exact Or.inl ⟨rfl, rfl⟩
            | false =>
              cases hj2 : dn j with
              | true => exact absurd (Or.inr ⟨by omega, hj2, hm⟩) hp
              | false => exact Or.inr ⟨rfl, h2⟩
        · exact h4 j (by omega) hpj hne
theorem klt_asymm {rk : Nat → Nat} {dn : Nat → Bool} {i j : Nat} (h1 : klt rk dn i j) (h2 : klt rk dn j i) : False := by
  unfold klt at h1 h2
  rcases h1 with a | ⟨a1, ⟨a2, a3⟩ | ⟨a2, a3⟩⟩ <;> rcases h2 with b | ⟨b1, ⟨b2, b3⟩ | ⟨b2, b3⟩⟩
  · omega
  · omega
  · omega
  · omega
  · rw [a2] at b3; cases b3
  · rw [a2, a3] at b2; cases b2
  · omega
  · rw [b2, b3] at a2; cases a2
  · omega
/-- the one that goes before all others that hold -/
theorem pick_of {P : Nat → Bool} {rk : Nat → Nat} {dn : Nat → Bool} {n m : Nat} (hm : m < n) (hp : P m = true) (h : ∀ j, j < n → P j = true → j ≠ m → klt rk dn m j) : pick P rk dn n = some m := by
  rcases pick_spec P rk dn n with ⟨h1, h2⟩ | ⟨m', h1, h2, h3, h4⟩
  · rw [h2 m hm] at hp
    cases hp
  · by_cases e : m' = m
    · rw [h1, e]
    · exact (klt_asymm (h4 m hm hp (fun z => e z.symm)) (h m' h2 h3 e)).elim
theorem pick_none {P : Nat → Bool} {rk : Nat → Nat} {dn : Nat → Bool} {n : Nat} (h : ∀ j, j < n → P j = false) : pick P rk dn n = none := by
  rcases pick_spec P rk dn n with ⟨h1, -⟩ | ⟨m', h1, h2, h3, -⟩
  · exact h1
  · rw [h m' h2] at h3
    cases h3
theorem pick_some {P : Nat → Bool} {rk : Nat → Nat} {dn : Nat → Bool} {n m : Nat} (h : pick P rk dn n = some m) : m < n ∧ P m = true ∧ ∀ j, j < n → P j = true → j ≠ m → klt rk dn m j := by
  rcases pick_spec P rk dn n with ⟨h1, -⟩ | ⟨m', h1, h2, h3, h4⟩
  · rw [h1] at h; cases h
  · rw [h1] at h
    cases h
    exact ⟨h2, h3, h4⟩
/-- the row: rules by place, sorted; nu: the number of the rule at a place -/
def Row (n : Nat) (nu rk : Nat → Nat) (dn : Nat → Bool) (rc RK : Nat → Nat) (DN : Nat → Bool) (RC : Nat → Nat) : Prop :=
  (∀ p, p < n → nu p < n ∧ rk p = RK (nu p) ∧ dn p = DN (nu p) ∧ rc p = RC (nu p)) ∧ (∀ m, m < n → ∃ p, p < n ∧ nu p = m) ∧ ∀ p q, p < q → q < n → klt RK DN (nu p) (nu q)
theorem klt_irrefl {rk : Nat → Nat} {dn : Nat → Bool} {i : Nat} (h : klt rk dn i i) : False := klt_asymm h h
theorem Row.inj {n : Nat} {nu rk : Nat → Nat} {dn : Nat → Bool} {rc RK : Nat → Nat} {DN : Nat → Bool} {RC : Nat → Nat} (h : Row n nu rk dn rc RK DN RC) {p q : Nat} (hp : p < n) (hq : q < n) (e : nu p = nu q) : p = q := by
  rcases Nat.lt_trichotomy p q with z | z | z
  · have := h.2.2 p q z hq
    rw [e] at this
    exact (klt_irrefl this).elim
  · exact z
  · have := h.2.2 q p z hp
    rw [e] at this
    exact (klt_irrefl this).elim
/-- the first place that holds is the rule that decides -/
theorem Row.first {n : Nat} {nu rk : Nat → Nat} {dn : Nat → Bool} {rc RK : Nat → Nat} {DN : Nat → Bool} {RC : Nat → Nat} (h : Row n nu rk dn rc RK DN RC) (P : Nat → Bool) : pick P RK DN n = (fst0 (fun p => P (nu p)) n 0).map nu := by
  cases e : fst0 (fun p => P (nu p)) n 0 with
  | none =>
    refine pick_none (fun m hm => ?_)
    obtain ⟨p, hp, rfl⟩ := h.2.1 m hm
    exact fst0_n e p (by omega) (by omega)
  | some p =>
    obtain ⟨h1, h2, h3, h4⟩ := fst0_s e
    show _ = some (nu p)
    refine pick_of (h.1 p (by omega)).1 h3 (fun m hm hpm hne => ?_)
    obtain ⟨q, hq, rfl⟩ := h.2.1 m hm
    rcases Nat.lt_trichotomy p q with z | z | z
    · exact h.2.2 p q z hq
    · exact absurd (congrArg nu z.symm) hne
    · have : P (nu q) = false := h4 q (by omega) z
      rw [this] at hpm
      cases hpm
end
