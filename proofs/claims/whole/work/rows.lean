section
-- ===== PART A: goes FIRST, ahead of the names: the tables' words, and 'selects' of the private methods out of them =====
/-- a private method of a class that the tables say can be made, by its rows of tables_1 -/
def lw_okq (q : MethodName × Nat) : Prop := (q.1.cls ≠ "java/lang/invoke/MethodHandle" ∧ q.1.cls ≠ "java/lang/invoke/VarHandle") ∧ Cond.instantiable q.1.cls q.2 ∈ tables_1 ∧ Cond.privateMethod q.1 ∈ tables_1 ∧ Cond.instanceMethod q.1 ∈ tables_1
theorem lw_p0 : lw_okq (⟨"RightDesk$ConditionBook", "setMember", "(IIZ)Z"⟩, 3) := ⟨⟨by decide +kernel, by decide +kernel⟩, List.mem_of_getElem? (i := 18) (by decide +kernel), List.mem_of_getElem? (i := 68) (by decide +kernel), List.mem_of_getElem? (i := 69) (by decide +kernel)⟩
theorem lw_p1 : lw_okq (⟨"RightDesk$ConditionBook", "isMember", "(II)Z"⟩, 3) := ⟨⟨by decide +kernel, by decide +kernel⟩, List.mem_of_getElem? (i := 18) (by decide +kernel), List.mem_of_getElem? (i := 72) (by decide +kernel), List.mem_of_getElem? (i := 73) (by decide +kernel)⟩
theorem lw_p2 : lw_okq (⟨"RightDesk$ConditionBook", "workOutAgain", "(I)V"⟩, 3) := ⟨⟨by decide +kernel, by decide +kernel⟩, List.mem_of_getElem? (i := 18) (by decide +kernel), List.mem_of_getElem? (i := 77) (by decide +kernel), List.mem_of_getElem? (i := 78) (by decide +kernel)⟩
theorem lw_p3 : lw_okq (⟨"RightDesk$ConditionBook", "at", "(I)LRightDesk$Condition;"⟩, 3) := ⟨⟨by decide +kernel, by decide +kernel⟩, List.mem_of_getElem? (i := 18) (by decide +kernel), List.mem_of_getElem? (i := 81) (by decide +kernel), List.mem_of_getElem? (i := 82) (by decide +kernel)⟩
theorem lw_p4 : lw_okq (⟨"RightDesk$ConditionBook", "workOut", "(LRightDesk$Condition;I)J"⟩, 3) := ⟨⟨by decide +kernel, by decide +kernel⟩, List.mem_of_getElem? (i := 18) (by decide +kernel), List.mem_of_getElem? (i := 85) (by decide +kernel), List.mem_of_getElem? (i := 86) (by decide +kernel)⟩
theorem lw_p5 : lw_okq (⟨"RightDesk$ConditionBook", "putTogether", "(LRightDesk$Condition;I)J"⟩, 3) := ⟨⟨by decide +kernel, by decide +kernel⟩, List.mem_of_getElem? (i := 18) (by decide +kernel), List.mem_of_getElem? (i := 99) (by decide +kernel), List.mem_of_getElem? (i := 100) (by decide +kernel)⟩
theorem lw_p6 : lw_okq (⟨"RightDesk$ConditionBook", "wordOf", "(II)J"⟩, 3) := ⟨⟨by decide +kernel, by decide +kernel⟩, List.mem_of_getElem? (i := 18) (by decide +kernel), List.mem_of_getElem? (i := 103) (by decide +kernel), List.mem_of_getElem? (i := 104) (by decide +kernel)⟩
theorem lw_p7 : lw_okq (⟨"RightDesk$Condition", "word", "(I)J"⟩, 5) := ⟨⟨by decide +kernel, by decide +kernel⟩, List.mem_of_getElem? (i := 109) (by decide +kernel), List.mem_of_getElem? (i := 107) (by decide +kernel), List.mem_of_getElem? (i := 108) (by decide +kernel)⟩
theorem lw_p8 : lw_okq (⟨"RightDesk$Condition", "setWord", "(IJ)V"⟩, 5) := ⟨⟨by decide +kernel, by decide +kernel⟩, List.mem_of_getElem? (i := 109) (by decide +kernel), List.mem_of_getElem? (i := 116) (by decide +kernel), List.mem_of_getElem? (i := 117) (by decide +kernel)⟩
theorem lw_p9 : lw_okq (⟨"RightDesk$ConditionBook", "canBe", "(IIII)Z"⟩, 3) := ⟨⟨by decide +kernel, by decide +kernel⟩, List.mem_of_getElem? (i := 18) (by decide +kernel), List.mem_of_getElem? (i := 124) (by decide +kernel), List.mem_of_getElem? (i := 125) (by decide +kernel)⟩
theorem lw_p10 : lw_okq (⟨"RightDesk$ConditionBook", "add", "(IIII)I"⟩, 3) := ⟨⟨by decide +kernel, by decide +kernel⟩, List.mem_of_getElem? (i := 18) (by decide +kernel), List.mem_of_getElem? (i := 128) (by decide +kernel), List.mem_of_getElem? (i := 129) (by decide +kernel)⟩
theorem lw_p11 : lw_okq (⟨"RightDesk$RuleBook", "add", "(IZLRightDesk$Condition;)I"⟩, 2) := ⟨⟨by decide +kernel, by decide +kernel⟩, List.mem_of_getElem? (i := 38) (by decide +kernel), List.mem_of_getElem? (i := 162) (by decide +kernel), List.mem_of_getElem? (i := 163) (by decide +kernel)⟩
theorem lw_p12 : lw_okq (⟨"RightDesk$RuleBook", "placeFor", "(LRightDesk$Rule;)I"⟩, 2) := ⟨⟨by decide +kernel, by decide +kernel⟩, List.mem_of_getElem? (i := 38) (by decide +kernel), List.mem_of_getElem? (i := 189) (by decide +kernel), List.mem_of_getElem? (i := 190) (by decide +kernel)⟩
theorem lw_p13 : lw_okq (⟨"RightDesk$RuleBook", "at", "(I)LRightDesk$Rule;"⟩, 2) := ⟨⟨by decide +kernel, by decide +kernel⟩, List.mem_of_getElem? (i := 38) (by decide +kernel), List.mem_of_getElem? (i := 193) (by decide +kernel), List.mem_of_getElem? (i := 194) (by decide +kernel)⟩
theorem lw_p14 : lw_okq (⟨"RightDesk$Rule", "goesBefore", "(LRightDesk$Rule;)Z"⟩, 4) := ⟨⟨by decide +kernel, by decide +kernel⟩, List.mem_of_getElem? (i := 166) (by decide +kernel), List.mem_of_getElem? (i := 197) (by decide +kernel), List.mem_of_getElem? (i := 198) (by decide +kernel)⟩
theorem lw_p15 : lw_okq (⟨"RightDesk$RuleBook", "placeOf", "(I)I"⟩, 2) := ⟨⟨by decide +kernel, by decide +kernel⟩, List.mem_of_getElem? (i := 38) (by decide +kernel), List.mem_of_getElem? (i := 205) (by decide +kernel), List.mem_of_getElem? (i := 206) (by decide +kernel)⟩
def lw_privs_1 : List (MethodName × Nat) := [(⟨"RightDesk$ConditionBook", "setMember", "(IIZ)Z"⟩, 3), (⟨"RightDesk$ConditionBook", "isMember", "(II)Z"⟩, 3), (⟨"RightDesk$ConditionBook", "workOutAgain", "(I)V"⟩, 3), (⟨"RightDesk$ConditionBook", "at", "(I)LRightDesk$Condition;"⟩, 3), (⟨"RightDesk$ConditionBook", "workOut", "(LRightDesk$Condition;I)J"⟩, 3), (⟨"RightDesk$ConditionBook", "putTogether", "(LRightDesk$Condition;I)J"⟩, 3), (⟨"RightDesk$ConditionBook", "wordOf", "(II)J"⟩, 3), (⟨"RightDesk$Condition", "word", "(I)J"⟩, 5), (⟨"RightDesk$Condition", "setWord", "(IJ)V"⟩, 5), (⟨"RightDesk$ConditionBook", "canBe", "(IIII)Z"⟩, 3), (⟨"RightDesk$ConditionBook", "add", "(IIII)I"⟩, 3), (⟨"RightDesk$RuleBook", "add", "(IZLRightDesk$Condition;)I"⟩, 2), (⟨"RightDesk$RuleBook", "placeFor", "(LRightDesk$Rule;)I"⟩, 2), (⟨"RightDesk$RuleBook", "at", "(I)LRightDesk$Rule;"⟩, 2), (⟨"RightDesk$Rule", "goesBefore", "(LRightDesk$Rule;)Z"⟩, 4), (⟨"RightDesk$RuleBook", "placeOf", "(I)I"⟩, 2)]
theorem lw_r1 : ∀ q ∈ lw_privs_1, lw_okq q := List.forall_mem_cons.mpr ⟨lw_p0, List.forall_mem_cons.mpr ⟨lw_p1, List.forall_mem_cons.mpr ⟨lw_p2, List.forall_mem_cons.mpr ⟨lw_p3, List.forall_mem_cons.mpr ⟨lw_p4, List.forall_mem_cons.mpr ⟨lw_p5, List.forall_mem_cons.mpr ⟨lw_p6, List.forall_mem_cons.mpr ⟨lw_p7, List.forall_mem_cons.mpr ⟨lw_p8, List.forall_mem_cons.mpr ⟨lw_p9, List.forall_mem_cons.mpr ⟨lw_p10, List.forall_mem_cons.mpr ⟨lw_p11, List.forall_mem_cons.mpr ⟨lw_p12, List.forall_mem_cons.mpr ⟨lw_p13, List.forall_mem_cons.mpr ⟨lw_p14, List.forall_mem_cons.mpr ⟨lw_p15, fun _ h => absurd h List.not_mem_nil⟩⟩⟩⟩⟩⟩⟩⟩⟩⟩⟩⟩⟩⟩⟩⟩
theorem lw_p16 : lw_okq (⟨"RightDesk$RuleBook", "remove", "(II)I"⟩, 2) := ⟨⟨by decide +kernel, by decide +kernel⟩, List.mem_of_getElem? (i := 38) (by decide +kernel), List.mem_of_getElem? (i := 209) (by decide +kernel), List.mem_of_getElem? (i := 210) (by decide +kernel)⟩
theorem lw_p17 : lw_okq (⟨"RightDesk$RuleBook", "deciderOf", "(I)LRightDesk$Rule;"⟩, 2) := ⟨⟨by decide +kernel, by decide +kernel⟩, List.mem_of_getElem? (i := 38) (by decide +kernel), List.mem_of_getElem? (i := 217) (by decide +kernel), List.mem_of_getElem? (i := 218) (by decide +kernel)⟩
theorem lw_p18 : lw_okq (⟨"RightDesk$Rule", "word", "(I)J"⟩, 4) := ⟨⟨by decide +kernel, by decide +kernel⟩, List.mem_of_getElem? (i := 166) (by decide +kernel), List.mem_of_getElem? (i := 221) (by decide +kernel), List.mem_of_getElem? (i := 222) (by decide +kernel)⟩
theorem lw_p19 : lw_okq (⟨"RightDesk$RuleBook", "decidedAt", "(II)J"⟩, 2) := ⟨⟨by decide +kernel, by decide +kernel⟩, List.mem_of_getElem? (i := 38) (by decide +kernel), List.mem_of_getElem? (i := 253) (by decide +kernel), List.mem_of_getElem? (i := 254) (by decide +kernel)⟩
theorem lw_p20 : lw_okq (⟨"RightDesk$RuleBook", "wordAt", "(II)J"⟩, 2) := ⟨⟨by decide +kernel, by decide +kernel⟩, List.mem_of_getElem? (i := 38) (by decide +kernel), List.mem_of_getElem? (i := 257) (by decide +kernel), List.mem_of_getElem? (i := 258) (by decide +kernel)⟩
theorem lw_p21 : lw_okq (⟨"RightDesk", "allowedIn", "(I)J"⟩, 2) := ⟨⟨by decide +kernel, by decide +kernel⟩, List.mem_of_getElem? (i := 10) (by decide +kernel), List.mem_of_getElem? (i := 267) (by decide +kernel), List.mem_of_getElem? (i := 268) (by decide +kernel)⟩
theorem lw_p22 : lw_okq (⟨"RightDesk$RuleBook", "allowedFrom", "(IJI)J"⟩, 2) := ⟨⟨by decide +kernel, by decide +kernel⟩, List.mem_of_getElem? (i := 38) (by decide +kernel), List.mem_of_getElem? (i := 271) (by decide +kernel), List.mem_of_getElem? (i := 272) (by decide +kernel)⟩
theorem lw_p23 : lw_okq (⟨"RightDesk$RuleBook", "turnedAt", "(II)J"⟩, 2) := ⟨⟨by decide +kernel, by decide +kernel⟩, List.mem_of_getElem? (i := 38) (by decide +kernel), List.mem_of_getElem? (i := 279) (by decide +kernel), List.mem_of_getElem? (i := 280) (by decide +kernel)⟩
theorem lw_p24 : lw_okq (⟨"RightDesk$RuleBook", "idleRank", "(ZJI)I"⟩, 2) := ⟨⟨by decide +kernel, by decide +kernel⟩, List.mem_of_getElem? (i := 38) (by decide +kernel), List.mem_of_getElem? (i := 289) (by decide +kernel), List.mem_of_getElem? (i := 290) (by decide +kernel)⟩
theorem lw_p25 : lw_okq (⟨"RightDesk$Rule", "rankBehind", "(Z)I"⟩, 4) := ⟨⟨by decide +kernel, by decide +kernel⟩, List.mem_of_getElem? (i := 166) (by decide +kernel), List.mem_of_getElem? (i := 293) (by decide +kernel), List.mem_of_getElem? (i := 294) (by decide +kernel)⟩
theorem lw_p26 : lw_okq (⟨"RightDeskModel", "make", "(I)V"⟩, 14) := ⟨⟨by decide +kernel, by decide +kernel⟩, List.mem_of_getElem? (i := 316) (by decide +kernel), List.mem_of_getElem? (i := 373) (by decide +kernel), List.mem_of_getElem? (i := 374) (by decide +kernel)⟩
theorem lw_p27 : lw_okq (⟨"RightDeskModel", "isSo", "(II)Z"⟩, 14) := ⟨⟨by decide +kernel, by decide +kernel⟩, List.mem_of_getElem? (i := 316) (by decide +kernel), List.mem_of_getElem? (i := 377) (by decide +kernel), List.mem_of_getElem? (i := 378) (by decide +kernel)⟩
theorem lw_p28 : lw_okq (⟨"RightDeskModel", "holds", "(II)Z"⟩, 14) := ⟨⟨by decide +kernel, by decide +kernel⟩, List.mem_of_getElem? (i := 316) (by decide +kernel), List.mem_of_getElem? (i := 393) (by decide +kernel), List.mem_of_getElem? (i := 394) (by decide +kernel)⟩
theorem lw_p29 : lw_okq (⟨"RightDeskModel", "isGood", "(IIII)Z"⟩, 14) := ⟨⟨by decide +kernel, by decide +kernel⟩, List.mem_of_getElem? (i := 316) (by decide +kernel), List.mem_of_getElem? (i := 401) (by decide +kernel), List.mem_of_getElem? (i := 402) (by decide +kernel)⟩
theorem lw_p30 : lw_okq (⟨"RightDeskModel", "isCondition", "(I)Z"⟩, 14) := ⟨⟨by decide +kernel, by decide +kernel⟩, List.mem_of_getElem? (i := 316) (by decide +kernel), List.mem_of_getElem? (i := 405) (by decide +kernel), List.mem_of_getElem? (i := 406) (by decide +kernel)⟩
theorem lw_p31 : lw_okq (⟨"RightDeskModel", "isRule", "(I)Z"⟩, 14) := ⟨⟨by decide +kernel, by decide +kernel⟩, List.mem_of_getElem? (i := 316) (by decide +kernel), List.mem_of_getElem? (i := 417) (by decide +kernel), List.mem_of_getElem? (i := 418) (by decide +kernel)⟩
def lw_privs_2 : List (MethodName × Nat) := [(⟨"RightDesk$RuleBook", "remove", "(II)I"⟩, 2), (⟨"RightDesk$RuleBook", "deciderOf", "(I)LRightDesk$Rule;"⟩, 2), (⟨"RightDesk$Rule", "word", "(I)J"⟩, 4), (⟨"RightDesk$RuleBook", "decidedAt", "(II)J"⟩, 2), (⟨"RightDesk$RuleBook", "wordAt", "(II)J"⟩, 2), (⟨"RightDesk", "allowedIn", "(I)J"⟩, 2), (⟨"RightDesk$RuleBook", "allowedFrom", "(IJI)J"⟩, 2), (⟨"RightDesk$RuleBook", "turnedAt", "(II)J"⟩, 2), (⟨"RightDesk$RuleBook", "idleRank", "(ZJI)I"⟩, 2), (⟨"RightDesk$Rule", "rankBehind", "(Z)I"⟩, 4), (⟨"RightDeskModel", "make", "(I)V"⟩, 14), (⟨"RightDeskModel", "isSo", "(II)Z"⟩, 14), (⟨"RightDeskModel", "holds", "(II)Z"⟩, 14), (⟨"RightDeskModel", "isGood", "(IIII)Z"⟩, 14), (⟨"RightDeskModel", "isCondition", "(I)Z"⟩, 14), (⟨"RightDeskModel", "isRule", "(I)Z"⟩, 14)]
theorem lw_r2 : ∀ q ∈ lw_privs_2, lw_okq q := List.forall_mem_cons.mpr ⟨lw_p16, List.forall_mem_cons.mpr ⟨lw_p17, List.forall_mem_cons.mpr ⟨lw_p18, List.forall_mem_cons.mpr ⟨lw_p19, List.forall_mem_cons.mpr ⟨lw_p20, List.forall_mem_cons.mpr ⟨lw_p21, List.forall_mem_cons.mpr ⟨lw_p22, List.forall_mem_cons.mpr ⟨lw_p23, List.forall_mem_cons.mpr ⟨lw_p24, List.forall_mem_cons.mpr ⟨lw_p25, List.forall_mem_cons.mpr ⟨lw_p26, List.forall_mem_cons.mpr ⟨lw_p27, List.forall_mem_cons.mpr ⟨lw_p28, List.forall_mem_cons.mpr ⟨lw_p29, List.forall_mem_cons.mpr ⟨lw_p30, List.forall_mem_cons.mpr ⟨lw_p31, fun _ h => absurd h List.not_mem_nil⟩⟩⟩⟩⟩⟩⟩⟩⟩⟩⟩⟩⟩⟩⟩⟩
theorem lw_p32 : lw_okq (⟨"RightDeskModel", "know", "()V"⟩, 14) := ⟨⟨by decide +kernel, by decide +kernel⟩, List.mem_of_getElem? (i := 316) (by decide +kernel), List.mem_of_getElem? (i := 425) (by decide +kernel), List.mem_of_getElem? (i := 426) (by decide +kernel)⟩
theorem lw_p33 : lw_okq (⟨"RightDeskModel", "decide", "(II)I"⟩, 14) := ⟨⟨by decide +kernel, by decide +kernel⟩, List.mem_of_getElem? (i := 316) (by decide +kernel), List.mem_of_getElem? (i := 429) (by decide +kernel), List.mem_of_getElem? (i := 430) (by decide +kernel)⟩
theorem lw_p34 : lw_okq (⟨"RightDeskModel", "firstRank", "(II)I"⟩, 14) := ⟨⟨by decide +kernel, by decide +kernel⟩, List.mem_of_getElem? (i := 316) (by decide +kernel), List.mem_of_getElem? (i := 433) (by decide +kernel), List.mem_of_getElem? (i := 434) (by decide +kernel)⟩
theorem lw_p35 : lw_okq (⟨"RightDeskModel", "isAllowed", "(I)Z"⟩, 14) := ⟨⟨by decide +kernel, by decide +kernel⟩, List.mem_of_getElem? (i := 316) (by decide +kernel), List.mem_of_getElem? (i := 437) (by decide +kernel), List.mem_of_getElem? (i := 438) (by decide +kernel)⟩
theorem lw_p36 : lw_okq (⟨"RightDeskModel", "wouldDecide", "(IZI)Z"⟩, 14) := ⟨⟨by decide +kernel, by decide +kernel⟩, List.mem_of_getElem? (i := 316) (by decide +kernel), List.mem_of_getElem? (i := 469) (by decide +kernel), List.mem_of_getElem? (i := 470) (by decide +kernel)⟩
def lw_privs_3 : List (MethodName × Nat) := [(⟨"RightDeskModel", "know", "()V"⟩, 14), (⟨"RightDeskModel", "decide", "(II)I"⟩, 14), (⟨"RightDeskModel", "firstRank", "(II)I"⟩, 14), (⟨"RightDeskModel", "isAllowed", "(I)Z"⟩, 14), (⟨"RightDeskModel", "wouldDecide", "(IZI)Z"⟩, 14)]
theorem lw_r3 : ∀ q ∈ lw_privs_3, lw_okq q := List.forall_mem_cons.mpr ⟨lw_p32, List.forall_mem_cons.mpr ⟨lw_p33, List.forall_mem_cons.mpr ⟨lw_p34, List.forall_mem_cons.mpr ⟨lw_p35, List.forall_mem_cons.mpr ⟨lw_p36, fun _ h => absurd h List.not_mem_nil⟩⟩⟩⟩⟩
def lw_privs : List (MethodName × Nat) := lw_privs_1 ++ (lw_privs_2 ++ (lw_privs_3))
def lw_tbl : List Cond := k2_sels lw_privs ++ tables_1
theorem lw_privs_ok : ∀ q ∈ lw_privs, lw_okq q := by
  show ∀ q ∈ lw_privs_1 ++ (lw_privs_2 ++ (lw_privs_3)), lw_okq q
  exact List.forall_mem_append.mpr ⟨lw_r1, List.forall_mem_append.mpr ⟨lw_r2, lw_r3⟩⟩
def R_De : String := "RightDesk"
def R_Co : String := "RightDesk$Condition"
def R_Cb : String := "RightDesk$ConditionBook"
def R_Ru : String := "RightDesk$Rule"
def R_Rb : String := "RightDesk$RuleBook"
def R_Mo : String := "RightDeskModel"
def R_La : String := "RightDeskLaw"
def R_Lo : String := "java/lang/Long"
def T_Co : u_T := fun k => match k with
  | 0 => ("RightDesk$Condition", "kind", "I", true)
  | 1 => ("RightDesk$Condition", "a", "I", true)
  | 2 => ("RightDesk$Condition", "b", "I", true)
  | 3 => ("RightDesk$Condition", "c", "I", true)
  | _ => ("RightDesk$Condition", "words", "[J", true)
def ty_Co : Nat → FieldType := fun k => match k with
  | 0 => .int
  | 1 => .int
  | 2 => .int
  | 3 => .int
  | _ => .array .long
theorem nm_Co : ∀ a, a < 5 → ∀ b, b < 5 → a ≠ b → (T_Co a).2.1 ≠ (T_Co b).2.1 := by decide +kernel
theorem tyok_Co : ∀ k, k < 5 → parseFieldDescriptor (T_Co k).2.2.1 = some (ty_Co k) := by decide +kernel
def T_Cb : u_T := fun k => match k with
  | 0 => ("RightDesk$ConditionBook", "made", "[LRightDesk$Condition;", true)
  | 1 => ("RightDesk$ConditionBook", "members", "[Z", true)
  | _ => ("RightDesk$ConditionBook", "count", "I", false)
def ty_Cb : Nat → FieldType := fun k => match k with
  | 0 => .array (.object "RightDesk$Condition")
  | 1 => .array .boolean
  | _ => .int
theorem nm_Cb : ∀ a, a < 3 → ∀ b, b < 3 → a ≠ b → (T_Cb a).2.1 ≠ (T_Cb b).2.1 := by decide +kernel
theorem tyok_Cb : ∀ k, k < 3 → parseFieldDescriptor (T_Cb k).2.2.1 = some (ty_Cb k) := by decide +kernel
def T_Ru : u_T := fun k => match k with
  | 0 => ("RightDesk$Rule", "rank", "I", true)
  | 1 => ("RightDesk$Rule", "denies", "Z", true)
  | 2 => ("RightDesk$Rule", "condition", "LRightDesk$Condition;", true)
  | _ => ("RightDesk$Rule", "number", "I", false)
def ty_Ru : Nat → FieldType := fun k => match k with
  | 0 => .int
  | 1 => .boolean
  | 2 => .object "RightDesk$Condition"
  | _ => .int
theorem nm_Ru : ∀ a, a < 4 → ∀ b, b < 4 → a ≠ b → (T_Ru a).2.1 ≠ (T_Ru b).2.1 := by decide +kernel
theorem tyok_Ru : ∀ k, k < 4 → parseFieldDescriptor (T_Ru k).2.2.1 = some (ty_Ru k) := by decide +kernel
def T_Rb : u_T := fun k => match k with
  | 0 => ("RightDesk$RuleBook", "row", "[LRightDesk$Rule;", true)
  | _ => ("RightDesk$RuleBook", "count", "I", false)
def ty_Rb : Nat → FieldType := fun k => match k with
  | 0 => .array (.object "RightDesk$Rule")
  | _ => .int
theorem nm_Rb : ∀ a, a < 2 → ∀ b, b < 2 → a ≠ b → (T_Rb a).2.1 ≠ (T_Rb b).2.1 := by decide +kernel
theorem tyok_Rb : ∀ k, k < 2 → parseFieldDescriptor (T_Rb k).2.2.1 = some (ty_Rb k) := by decide +kernel
def T_De : u_T := fun k => match k with
  | 0 => ("RightDesk", "conditionBook", "LRightDesk$ConditionBook;", true)
  | _ => ("RightDesk", "ruleBook", "LRightDesk$RuleBook;", true)
def ty_De : Nat → FieldType := fun k => match k with
  | 0 => .object "RightDesk$ConditionBook"
  | _ => .object "RightDesk$RuleBook"
theorem nm_De : ∀ a, a < 2 → ∀ b, b < 2 → a ≠ b → (T_De a).2.1 ≠ (T_De b).2.1 := by decide +kernel
theorem tyok_De : ∀ k, k < 2 → parseFieldDescriptor (T_De k).2.2.1 = some (ty_De k) := by decide +kernel
def T_Mo : u_T := fun k => match k with
  | 0 => ("RightDeskModel", "code", "I", false)
  | 1 => ("RightDeskModel", "groups", "[I", true)
  | 2 => ("RightDeskModel", "conditions", "I", false)
  | 3 => ("RightDeskModel", "kind", "[I", true)
  | 4 => ("RightDeskModel", "first", "[I", true)
  | 5 => ("RightDeskModel", "second", "[I", true)
  | 6 => ("RightDeskModel", "third", "[I", true)
  | 7 => ("RightDeskModel", "bits", "[I", true)
  | 8 => ("RightDeskModel", "rules", "I", false)
  | 9 => ("RightDeskModel", "rank", "[I", true)
  | 10 => ("RightDeskModel", "denies", "[Z", true)
  | 11 => ("RightDeskModel", "condition", "[I", true)
  | 12 => ("RightDeskModel", "decider", "[I", true)
  | _ => ("RightDeskModel", "known", "Z", false)
def ty_Mo : Nat → FieldType := fun k => match k with
  | 0 => .int
  | 1 => .array .int
  | 2 => .int
  | 3 => .array .int
  | 4 => .array .int
  | 5 => .array .int
  | 6 => .array .int
  | 7 => .array .int
  | 8 => .int
  | 9 => .array .int
  | 10 => .array .boolean
  | 11 => .array .int
  | 12 => .array .int
  | _ => .boolean
theorem nm_Mo : ∀ a, a < 14 → ∀ b, b < 14 → a ≠ b → (T_Mo a).2.1 ≠ (T_Mo b).2.1 := by decide +kernel
theorem tyok_Mo : ∀ k, k < 14 → parseFieldDescriptor (T_Mo k).2.2.1 = some (ty_Mo k) := by decide +kernel
abbrev vwCl : List vw_C := [(R_Co, T_Co, 5), (R_Cb, T_Cb, 3), (R_Ru, T_Ru, 4), (R_Rb, T_Rb, 2), (R_De, T_De, 2), (R_Mo, T_Mo, 14)]
abbrev b_De_init : ByteArray := prog_1_method_1_code
def y_De_init : MethodName := ⟨R_De, "<init>", "()V"⟩
abbrev b_De_member : ByteArray := prog_1_method_2_code
def y_De_member : MethodName := ⟨R_De, "member", "(IIZ)I"⟩
abbrev b_De_condition : ByteArray := prog_1_method_3_code
def y_De_condition : MethodName := ⟨R_De, "condition", "(IIII)I"⟩
abbrev b_De_rule : ByteArray := prog_1_method_4_code
def y_De_rule : MethodName := ⟨R_De, "rule", "(IZI)I"⟩
abbrev b_De_drop : ByteArray := prog_1_method_5_code
def y_De_drop : MethodName := ⟨R_De, "drop", "(I)I"⟩
abbrev b_De_may : ByteArray := prog_1_method_6_code
def y_De_may : MethodName := ⟨R_De, "may", "(IIIIII)I"⟩
abbrev b_De_asks : ByteArray := prog_1_method_7_code
def y_De_asks : MethodName := ⟨R_De, "asks", "(I)I"⟩
abbrev b_De_ask : ByteArray := prog_1_method_8_code
def y_De_ask : MethodName := ⟨R_De, "ask", "(II)I"⟩
abbrev b_De_within : ByteArray := prog_1_method_9_code
def y_De_within : MethodName := ⟨R_De, "within", "(II)I"⟩
abbrev b_De_decides : ByteArray := prog_1_method_10_code
def y_De_decides : MethodName := ⟨R_De, "decides", "(I)I"⟩
abbrev b_De_sees : ByteArray := prog_1_method_11_code
def y_De_sees : MethodName := ⟨R_De, "sees", "(II)I"⟩
abbrev b_De_matters : ByteArray := prog_1_method_12_code
def y_De_matters : MethodName := ⟨R_De, "matters", "(I)I"⟩
abbrev b_De_idle : ByteArray := prog_1_method_13_code
def y_De_idle : MethodName := ⟨R_De, "idle", "(ZI)I"⟩
abbrev b_De_apart : ByteArray := prog_1_method_14_code
def y_De_apart : MethodName := ⟨R_De, "apart", "(II)I"⟩
abbrev b_De_allowed : ByteArray := prog_1_method_15_code
def y_De_allowed : MethodName := ⟨R_De, "allowed", "()I"⟩
abbrev b_De_conditions : ByteArray := prog_1_method_16_code
def y_De_conditions : MethodName := ⟨R_De, "conditions", "()I"⟩
abbrev b_De_rules : ByteArray := prog_1_method_17_code
def y_De_rules : MethodName := ⟨R_De, "rules", "()I"⟩
abbrev b_De_allowedIn : ByteArray := prog_1_method_18_code
def y_De_allowedIn : MethodName := ⟨R_De, "allowedIn", "(I)J"⟩
abbrev b_De_isBelow : ByteArray := prog_1_method_19_code
def y_De_isBelow : MethodName := ⟨R_De, "isBelow", "(II)Z"⟩
abbrev b_De_versionsFromTo : ByteArray := prog_1_method_20_code
def y_De_versionsFromTo : MethodName := ⟨R_De, "versionsFromTo", "(II)J"⟩
abbrev b_De_bitPlace : ByteArray := prog_1_method_21_code
def y_De_bitPlace : MethodName := ⟨R_De, "bitPlace", "(JI)I"⟩
abbrev b_Co_init : ByteArray := prog_2_method_1_code
def y_Co_init : MethodName := ⟨R_Co, "<init>", "(IIII)V"⟩
abbrev b_Co_word : ByteArray := prog_2_method_2_code
def y_Co_word : MethodName := ⟨R_Co, "word", "(I)J"⟩
abbrev b_Co_setWord : ByteArray := prog_2_method_3_code
def y_Co_setWord : MethodName := ⟨R_Co, "setWord", "(IJ)V"⟩
abbrev b_Cb_init : ByteArray := prog_3_method_1_code
def y_Cb_init : MethodName := ⟨R_Cb, "<init>", "()V"⟩
abbrev b_Cb_at : ByteArray := prog_3_method_2_code
def y_Cb_at : MethodName := ⟨R_Cb, "at", "(I)LRightDesk$Condition;"⟩
abbrev b_Cb_canBe : ByteArray := prog_3_method_3_code
def y_Cb_canBe : MethodName := ⟨R_Cb, "canBe", "(IIII)Z"⟩
abbrev b_Cb_add : ByteArray := prog_3_method_4_code
def y_Cb_add : MethodName := ⟨R_Cb, "add", "(IIII)I"⟩
abbrev b_Cb_setMember : ByteArray := prog_3_method_5_code
def y_Cb_setMember : MethodName := ⟨R_Cb, "setMember", "(IIZ)Z"⟩
abbrev b_Cb_isMember : ByteArray := prog_3_method_6_code
def y_Cb_isMember : MethodName := ⟨R_Cb, "isMember", "(II)Z"⟩
abbrev b_Cb_workOutAgain : ByteArray := prog_3_method_7_code
def y_Cb_workOutAgain : MethodName := ⟨R_Cb, "workOutAgain", "(I)V"⟩
abbrev b_Cb_workOut : ByteArray := prog_3_method_8_code
def y_Cb_workOut : MethodName := ⟨R_Cb, "workOut", "(LRightDesk$Condition;I)J"⟩
abbrev b_Cb_predicateIn : ByteArray := prog_3_method_9_code
def y_Cb_predicateIn : MethodName := ⟨R_Cb, "predicateIn", "(II)J"⟩
abbrev b_Cb_putTogether : ByteArray := prog_3_method_10_code
def y_Cb_putTogether : MethodName := ⟨R_Cb, "putTogether", "(LRightDesk$Condition;I)J"⟩
abbrev b_Cb_twoOfThree : ByteArray := prog_3_method_11_code
def y_Cb_twoOfThree : MethodName := ⟨R_Cb, "twoOfThree", "(JJJ)J"⟩
abbrev b_Cb_wordOf : ByteArray := prog_3_method_12_code
def y_Cb_wordOf : MethodName := ⟨R_Cb, "wordOf", "(II)J"⟩
abbrev b_Ru_init : ByteArray := prog_4_method_1_code
def y_Ru_init : MethodName := ⟨R_Ru, "<init>", "(IIZLRightDesk$Condition;)V"⟩
abbrev b_Ru_word : ByteArray := prog_4_method_2_code
def y_Ru_word : MethodName := ⟨R_Ru, "word", "(I)J"⟩
abbrev b_Ru_goesBefore : ByteArray := prog_4_method_3_code
def y_Ru_goesBefore : MethodName := ⟨R_Ru, "goesBefore", "(LRightDesk$Rule;)Z"⟩
abbrev b_Ru_rankBehind : ByteArray := prog_4_method_4_code
def y_Ru_rankBehind : MethodName := ⟨R_Ru, "rankBehind", "(Z)I"⟩
abbrev b_Rb_init : ByteArray := prog_5_method_1_code
def y_Rb_init : MethodName := ⟨R_Rb, "<init>", "()V"⟩
abbrev b_Rb_at : ByteArray := prog_5_method_2_code
def y_Rb_at : MethodName := ⟨R_Rb, "at", "(I)LRightDesk$Rule;"⟩
abbrev b_Rb_placeOf : ByteArray := prog_5_method_3_code
def y_Rb_placeOf : MethodName := ⟨R_Rb, "placeOf", "(I)I"⟩
abbrev b_Rb_add : ByteArray := prog_5_method_4_code
def y_Rb_add : MethodName := ⟨R_Rb, "add", "(IZLRightDesk$Condition;)I"⟩
abbrev b_Rb_placeFor : ByteArray := prog_5_method_5_code
def y_Rb_placeFor : MethodName := ⟨R_Rb, "placeFor", "(LRightDesk$Rule;)I"⟩
abbrev b_Rb_remove : ByteArray := prog_5_method_6_code
def y_Rb_remove : MethodName := ⟨R_Rb, "remove", "(II)I"⟩
abbrev b_Rb_deciderOf : ByteArray := prog_5_method_7_code
def y_Rb_deciderOf : MethodName := ⟨R_Rb, "deciderOf", "(I)LRightDesk$Rule;"⟩
abbrev b_Rb_allowedFrom : ByteArray := prog_5_method_8_code
def y_Rb_allowedFrom : MethodName := ⟨R_Rb, "allowedFrom", "(IJI)J"⟩
abbrev b_Rb_decidedAt : ByteArray := prog_5_method_9_code
def y_Rb_decidedAt : MethodName := ⟨R_Rb, "decidedAt", "(II)J"⟩
abbrev b_Rb_wordAt : ByteArray := prog_5_method_10_code
def y_Rb_wordAt : MethodName := ⟨R_Rb, "wordAt", "(II)J"⟩
abbrev b_Rb_turnedAt : ByteArray := prog_5_method_11_code
def y_Rb_turnedAt : MethodName := ⟨R_Rb, "turnedAt", "(II)J"⟩
abbrev b_Rb_idleRank : ByteArray := prog_5_method_12_code
def y_Rb_idleRank : MethodName := ⟨R_Rb, "idleRank", "(ZJI)I"⟩
abbrev b_Mo_init : ByteArray := prog_7_method_1_code
def y_Mo_init : MethodName := ⟨R_Mo, "<init>", "()V"⟩
abbrev b_Mo_isIn : ByteArray := prog_7_method_3_code
def y_Mo_isIn : MethodName := ⟨R_Mo, "isIn", "(III)Z"⟩
abbrev b_Mo_isCondition : ByteArray := prog_7_method_4_code
def y_Mo_isCondition : MethodName := ⟨R_Mo, "isCondition", "(I)Z"⟩
abbrev b_Mo_isRule : ByteArray := prog_7_method_5_code
def y_Mo_isRule : MethodName := ⟨R_Mo, "isRule", "(I)Z"⟩
abbrev b_Mo_personOf : ByteArray := prog_7_method_6_code
def y_Mo_personOf : MethodName := ⟨R_Mo, "personOf", "(I)I"⟩
abbrev b_Mo_graphOf : ByteArray := prog_7_method_7_code
def y_Mo_graphOf : MethodName := ⟨R_Mo, "graphOf", "(I)I"⟩
abbrev b_Mo_predicateOf : ByteArray := prog_7_method_8_code
def y_Mo_predicateOf : MethodName := ⟨R_Mo, "predicateOf", "(I)I"⟩
abbrev b_Mo_classOf : ByteArray := prog_7_method_9_code
def y_Mo_classOf : MethodName := ⟨R_Mo, "classOf", "(I)I"⟩
abbrev b_Mo_holds : ByteArray := prog_7_method_10_code
def y_Mo_holds : MethodName := ⟨R_Mo, "holds", "(II)Z"⟩
abbrev b_Mo_isSo : ByteArray := prog_7_method_11_code
def y_Mo_isSo : MethodName := ⟨R_Mo, "isSo", "(II)Z"⟩
abbrev b_Mo_make : ByteArray := prog_7_method_12_code
def y_Mo_make : MethodName := ⟨R_Mo, "make", "(I)V"⟩
abbrev b_Mo_member : ByteArray := prog_7_method_13_code
def y_Mo_member : MethodName := ⟨R_Mo, "member", "(IIZ)I"⟩
abbrev b_Mo_isGood : ByteArray := prog_7_method_14_code
def y_Mo_isGood : MethodName := ⟨R_Mo, "isGood", "(IIII)Z"⟩
abbrev b_Mo_condition : ByteArray := prog_7_method_15_code
def y_Mo_condition : MethodName := ⟨R_Mo, "condition", "(IIII)I"⟩
abbrev b_Mo_rule : ByteArray := prog_7_method_16_code
def y_Mo_rule : MethodName := ⟨R_Mo, "rule", "(IZI)I"⟩
abbrev b_Mo_drop : ByteArray := prog_7_method_17_code
def y_Mo_drop : MethodName := ⟨R_Mo, "drop", "(I)I"⟩
abbrev b_Mo_firstRank : ByteArray := prog_7_method_18_code
def y_Mo_firstRank : MethodName := ⟨R_Mo, "firstRank", "(II)I"⟩
abbrev b_Mo_decide : ByteArray := prog_7_method_19_code
def y_Mo_decide : MethodName := ⟨R_Mo, "decide", "(II)I"⟩
abbrev b_Mo_isAllowed : ByteArray := prog_7_method_20_code
def y_Mo_isAllowed : MethodName := ⟨R_Mo, "isAllowed", "(I)Z"⟩
abbrev b_Mo_know : ByteArray := prog_7_method_21_code
def y_Mo_know : MethodName := ⟨R_Mo, "know", "()V"⟩
abbrev b_Mo_may : ByteArray := prog_7_method_22_code
def y_Mo_may : MethodName := ⟨R_Mo, "may", "(IIIIII)I"⟩
abbrev b_Mo_asks : ByteArray := prog_7_method_23_code
def y_Mo_asks : MethodName := ⟨R_Mo, "asks", "(I)I"⟩
abbrev b_Mo_ask : ByteArray := prog_7_method_24_code
def y_Mo_ask : MethodName := ⟨R_Mo, "ask", "(II)I"⟩
abbrev b_Mo_within : ByteArray := prog_7_method_25_code
def y_Mo_within : MethodName := ⟨R_Mo, "within", "(II)I"⟩
abbrev b_Mo_decides : ByteArray := prog_7_method_26_code
def y_Mo_decides : MethodName := ⟨R_Mo, "decides", "(I)I"⟩
abbrev b_Mo_sees : ByteArray := prog_7_method_27_code
def y_Mo_sees : MethodName := ⟨R_Mo, "sees", "(II)I"⟩
abbrev b_Mo_matters : ByteArray := prog_7_method_28_code
def y_Mo_matters : MethodName := ⟨R_Mo, "matters", "(I)I"⟩
abbrev b_Mo_wouldDecide : ByteArray := prog_7_method_29_code
def y_Mo_wouldDecide : MethodName := ⟨R_Mo, "wouldDecide", "(IZI)Z"⟩
abbrev b_Mo_idle : ByteArray := prog_7_method_30_code
def y_Mo_idle : MethodName := ⟨R_Mo, "idle", "(ZI)I"⟩
abbrev b_Mo_apart : ByteArray := prog_7_method_31_code
def y_Mo_apart : MethodName := ⟨R_Mo, "apart", "(II)I"⟩
abbrev b_Mo_allowed : ByteArray := prog_7_method_32_code
def y_Mo_allowed : MethodName := ⟨R_Mo, "allowed", "()I"⟩
abbrev b_Mo_conditions : ByteArray := prog_7_method_33_code
def y_Mo_conditions : MethodName := ⟨R_Mo, "conditions", "()I"⟩
abbrev b_Mo_rules : ByteArray := prog_7_method_34_code
def y_Mo_rules : MethodName := ⟨R_Mo, "rules", "()I"⟩
abbrev b_Lo_bitCount : ByteArray := prog_8_method_50_code
def y_Lo_bitCount : MethodName := ⟨R_Lo, "bitCount", "(J)I"⟩
/-- the words that every contract has: those of the tables that last -/
def AW : List Cond := lw_tbl.filter goodWord
theorem aw_t {w : Cond} (i : Nat) (h : tables_1[i]? = some w) (g : goodWord w = true) : w ∈ AW := List.mem_filter.mpr ⟨List.mem_append_right _ (List.mem_of_getElem? h), g⟩
theorem aw_s {w : Cond} (i : Nat) (h : (k2_sels lw_privs)[i]? = some w) (g : goodWord w = true) : w ∈ AW := List.mem_filter.mpr ⟨List.mem_append_left _ (List.mem_of_getElem? h), g⟩
theorem in_Co : ∀ w ∈ u_ws R_Co T_Co 5, w ∈ AW := by
  intro w hw
  obtain ⟨k, hk, rfl⟩ := List.mem_map.mp hw
  have hk : k < 5 := List.mem_range.mp hk
  rcases (show k = 0 ∨ k = 1 ∨ k = 2 ∨ k = 3 ∨ k = 4 by omega) with rfl | rfl | rfl | rfl | rfl
  · exact aw_t 144 (by decide +kernel) (by decide +kernel)
  · exact aw_t 146 (by decide +kernel) (by decide +kernel)
  · exact aw_t 148 (by decide +kernel) (by decide +kernel)
  · exact aw_t 150 (by decide +kernel) (by decide +kernel)
  · exact aw_t 152 (by decide +kernel) (by decide +kernel)
theorem in_Cb : ∀ w ∈ u_ws R_Cb T_Cb 3, w ∈ AW := by
  intro w hw
  obtain ⟨k, hk, rfl⟩ := List.mem_map.mp hw
  have hk : k < 3 := List.mem_range.mp hk
  rcases (show k = 0 ∨ k = 1 ∨ k = 2 by omega) with rfl | rfl | rfl
  · exact aw_t 29 (by decide +kernel) (by decide +kernel)
  · exact aw_t 31 (by decide +kernel) (by decide +kernel)
  · exact aw_t 33 (by decide +kernel) (by decide +kernel)
theorem in_Ru : ∀ w ∈ u_ws R_Ru T_Ru 4, w ∈ AW := by
  intro w hw
  obtain ⟨k, hk, rfl⟩ := List.mem_map.mp hw
  have hk : k < 4 := List.mem_range.mp hk
  rcases (show k = 0 ∨ k = 1 ∨ k = 2 ∨ k = 3 by omega) with rfl | rfl | rfl | rfl
  · exact aw_t 179 (by decide +kernel) (by decide +kernel)
  · exact aw_t 181 (by decide +kernel) (by decide +kernel)
  · exact aw_t 183 (by decide +kernel) (by decide +kernel)
  · exact aw_t 185 (by decide +kernel) (by decide +kernel)
theorem in_Rb : ∀ w ∈ u_ws R_Rb T_Rb 2, w ∈ AW := by
  intro w hw
  obtain ⟨k, hk, rfl⟩ := List.mem_map.mp hw
  have hk : k < 2 := List.mem_range.mp hk
  rcases (show k = 0 ∨ k = 1 by omega) with rfl | rfl
  · exact aw_t 48 (by decide +kernel) (by decide +kernel)
  · exact aw_t 50 (by decide +kernel) (by decide +kernel)
theorem in_De : ∀ w ∈ u_ws R_De T_De 2, w ∈ AW := by
  intro w hw
  obtain ⟨k, hk, rfl⟩ := List.mem_map.mp hw
  have hk : k < 2 := List.mem_range.mp hk
  rcases (show k = 0 ∨ k = 1 by omega) with rfl | rfl
  · exact aw_t 55 (by decide +kernel) (by decide +kernel)
  · exact aw_t 57 (by decide +kernel) (by decide +kernel)
theorem in_Mo : ∀ w ∈ u_ws R_Mo T_Mo 14, w ∈ AW := by
  intro w hw
  obtain ⟨k, hk, rfl⟩ := List.mem_map.mp hw
  have hk : k < 14 := List.mem_range.mp hk
  rcases (show k = 0 ∨ k = 1 ∨ k = 2 ∨ k = 3 ∨ k = 4 ∨ k = 5 ∨ k = 6 ∨ k = 7 ∨ k = 8 ∨ k = 9 ∨ k = 10 ∨ k = 11 ∨ k = 12 ∨ k = 13 by omega) with rfl | rfl | rfl | rfl | rfl | rfl | rfl | rfl | rfl | rfl | rfl | rfl | rfl | rfl
  · exact aw_t 335 (by decide +kernel) (by decide +kernel)
  · exact aw_t 337 (by decide +kernel) (by decide +kernel)
  · exact aw_t 339 (by decide +kernel) (by decide +kernel)
  · exact aw_t 341 (by decide +kernel) (by decide +kernel)
  · exact aw_t 343 (by decide +kernel) (by decide +kernel)
  · exact aw_t 345 (by decide +kernel) (by decide +kernel)
  · exact aw_t 347 (by decide +kernel) (by decide +kernel)
  · exact aw_t 349 (by decide +kernel) (by decide +kernel)
  · exact aw_t 351 (by decide +kernel) (by decide +kernel)
  · exact aw_t 353 (by decide +kernel) (by decide +kernel)
  · exact aw_t 355 (by decide +kernel) (by decide +kernel)
  · exact aw_t 357 (by decide +kernel) (by decide +kernel)
  · exact aw_t 359 (by decide +kernel) (by decide +kernel)
  · exact aw_t 361 (by decide +kernel) (by decide +kernel)
end
section
theorem d_Co_init_0 : decode b_Co_init 0 = .ok (.aload_n 0, 1) := by decide +kernel
theorem d_Co_init_1 : decode b_Co_init 1 = .ok (.invokespecial 3, 3) := by decide +kernel
theorem d_Co_init_4 : decode b_Co_init 4 = .ok (.aload_n 0, 1) := by decide +kernel
theorem d_Co_init_5 : decode b_Co_init 5 = .ok (.iload_n 1, 1) := by decide +kernel
theorem d_Co_init_6 : decode b_Co_init 6 = .ok (.putfield 9, 3) := by decide +kernel
theorem d_Co_init_9 : decode b_Co_init 9 = .ok (.aload_n 0, 1) := by decide +kernel
theorem d_Co_init_10 : decode b_Co_init 10 = .ok (.iload_n 2, 1) := by decide +kernel
theorem d_Co_init_11 : decode b_Co_init 11 = .ok (.putfield 15, 3) := by decide +kernel
theorem d_Co_init_14 : decode b_Co_init 14 = .ok (.aload_n 0, 1) := by decide +kernel
theorem d_Co_init_15 : decode b_Co_init 15 = .ok (.iload_n 3, 1) := by decide +kernel
theorem d_Co_init_16 : decode b_Co_init 16 = .ok (.putfield 18, 3) := by decide +kernel
theorem d_Co_init_19 : decode b_Co_init 19 = .ok (.aload_n 0, 1) := by decide +kernel
theorem d_Co_init_20 : decode b_Co_init 20 = .ok (.iload 4, 2) := by decide +kernel
theorem d_Co_init_22 : decode b_Co_init 22 = .ok (.putfield 21, 3) := by decide +kernel
theorem d_Co_init_25 : decode b_Co_init 25 = .ok (.aload_n 0, 1) := by decide +kernel
theorem d_Co_init_26 : decode b_Co_init 26 = .ok (.bipush 96, 2) := by decide +kernel
theorem d_Co_init_28 : decode b_Co_init 28 = .ok (.newarray .long, 2) := by decide +kernel
theorem d_Co_init_30 : decode b_Co_init 30 = .ok (.putfield 24, 3) := by decide +kernel
theorem d_Co_init_33 : decode b_Co_init 33 = .ok (.return_, 1) := by decide +kernel
theorem d_Co_word_0 : decode b_Co_word 0 = .ok (.iload_n 1, 1) := by decide +kernel
theorem d_Co_word_1 : decode b_Co_word 1 = .ok (.aload_n 0, 1) := by decide +kernel
theorem d_Co_word_2 : decode b_Co_word 2 = .ok (.getfield 24, 3) := by decide +kernel
theorem d_Co_word_5 : decode b_Co_word 5 = .ok (.arraylength, 1) := by decide +kernel
theorem d_Co_word_6 : decode b_Co_word 6 = .ok (.invokestatic 28, 3) := by decide +kernel
theorem d_Co_word_9 : decode b_Co_word 9 = .ok (.ifCond .eq 12, 3) := by decide +kernel
theorem d_Co_word_12 : decode b_Co_word 12 = .ok (.aload_n 0, 1) := by decide +kernel
theorem d_Co_word_13 : decode b_Co_word 13 = .ok (.getfield 24, 3) := by decide +kernel
theorem d_Co_word_16 : decode b_Co_word 16 = .ok (.iload_n 1, 1) := by decide +kernel
theorem d_Co_word_17 : decode b_Co_word 17 = .ok (.laload, 1) := by decide +kernel
theorem d_Co_word_18 : decode b_Co_word 18 = .ok (.goto 4, 3) := by decide +kernel
theorem d_Co_word_21 : decode b_Co_word 21 = .ok (.lconst 0, 1) := by decide +kernel
theorem d_Co_word_22 : decode b_Co_word 22 = .ok (.lreturn, 1) := by decide +kernel
theorem d_Co_setWord_0 : decode b_Co_setWord 0 = .ok (.iload_n 1, 1) := by decide +kernel
theorem d_Co_setWord_1 : decode b_Co_setWord 1 = .ok (.aload_n 0, 1) := by decide +kernel
theorem d_Co_setWord_2 : decode b_Co_setWord 2 = .ok (.getfield 24, 3) := by decide +kernel
theorem d_Co_setWord_5 : decode b_Co_setWord 5 = .ok (.arraylength, 1) := by decide +kernel
theorem d_Co_setWord_6 : decode b_Co_setWord 6 = .ok (.invokestatic 28, 3) := by decide +kernel
theorem d_Co_setWord_9 : decode b_Co_setWord 9 = .ok (.ifCond .eq 10, 3) := by decide +kernel
theorem d_Co_setWord_12 : decode b_Co_setWord 12 = .ok (.aload_n 0, 1) := by decide +kernel
theorem d_Co_setWord_13 : decode b_Co_setWord 13 = .ok (.getfield 24, 3) := by decide +kernel
theorem d_Co_setWord_16 : decode b_Co_setWord 16 = .ok (.iload_n 1, 1) := by decide +kernel
theorem d_Co_setWord_17 : decode b_Co_setWord 17 = .ok (.lload_n 2, 1) := by decide +kernel
theorem d_Co_setWord_18 : decode b_Co_setWord 18 = .ok (.lastore, 1) := by decide +kernel
theorem d_Co_setWord_19 : decode b_Co_setWord 19 = .ok (.return_, 1) := by decide +kernel
theorem d_Cb_init_0 : decode b_Cb_init 0 = .ok (.aload_n 0, 1) := by decide +kernel
theorem d_Cb_init_1 : decode b_Cb_init 1 = .ok (.invokespecial 3, 3) := by decide +kernel
theorem d_Cb_init_4 : decode b_Cb_init 4 = .ok (.aload_n 0, 1) := by decide +kernel
theorem d_Cb_init_5 : decode b_Cb_init 5 = .ok (.bipush 60, 2) := by decide +kernel
theorem d_Cb_init_7 : decode b_Cb_init 7 = .ok (.anewarray 9, 3) := by decide +kernel
theorem d_Cb_init_10 : decode b_Cb_init 10 = .ok (.putfield 11, 3) := by decide +kernel
theorem d_Cb_init_13 : decode b_Cb_init 13 = .ok (.aload_n 0, 1) := by decide +kernel
theorem d_Cb_init_14 : decode b_Cb_init 14 = .ok (.bipush 64, 2) := by decide +kernel
theorem d_Cb_init_16 : decode b_Cb_init 16 = .ok (.newarray .boolean, 2) := by decide +kernel
theorem d_Cb_init_18 : decode b_Cb_init 18 = .ok (.putfield 17, 3) := by decide +kernel
theorem d_Cb_init_21 : decode b_Cb_init 21 = .ok (.aload_n 0, 1) := by decide +kernel
theorem d_Cb_init_22 : decode b_Cb_init 22 = .ok (.iconst 0, 1) := by decide +kernel
theorem d_Cb_init_23 : decode b_Cb_init 23 = .ok (.putfield 21, 3) := by decide +kernel
theorem d_Cb_init_26 : decode b_Cb_init 26 = .ok (.return_, 1) := by decide +kernel
theorem d_Cb_at_0 : decode b_Cb_at 0 = .ok (.iload_n 1, 1) := by decide +kernel
theorem d_Cb_at_1 : decode b_Cb_at 1 = .ok (.aload_n 0, 1) := by decide +kernel
theorem d_Cb_at_2 : decode b_Cb_at 2 = .ok (.getfield 11, 3) := by decide +kernel
theorem d_Cb_at_5 : decode b_Cb_at 5 = .ok (.arraylength, 1) := by decide +kernel
theorem d_Cb_at_6 : decode b_Cb_at 6 = .ok (.invokestatic 25, 3) := by decide +kernel
theorem d_Cb_at_9 : decode b_Cb_at 9 = .ok (.ifCond .eq 12, 3) := by decide +kernel
theorem d_Cb_at_12 : decode b_Cb_at 12 = .ok (.aload_n 0, 1) := by decide +kernel
theorem d_Cb_at_13 : decode b_Cb_at 13 = .ok (.getfield 11, 3) := by decide +kernel
theorem d_Cb_at_16 : decode b_Cb_at 16 = .ok (.iload_n 1, 1) := by decide +kernel
theorem d_Cb_at_17 : decode b_Cb_at 17 = .ok (.aaload, 1) := by decide +kernel
theorem d_Cb_at_18 : decode b_Cb_at 18 = .ok (.goto 4, 3) := by decide +kernel
theorem d_Cb_at_21 : decode b_Cb_at 21 = .ok (.aconst_null, 1) := by decide +kernel
theorem d_Cb_at_22 : decode b_Cb_at 22 = .ok (.areturn, 1) := by decide +kernel
theorem d_Cb_canBe_0 : decode b_Cb_canBe 0 = .ok (.iload_n 1, 1) := by decide +kernel
theorem d_Cb_canBe_1 : decode b_Cb_canBe 1 = .ok (.tableswitch 200 0 10 #[59, 66, 73, 79, 86, 92, 121, 130, 130, 158, 160], 59) := by decide +kernel
theorem d_Cb_canBe_60 : decode b_Cb_canBe 60 = .ok (.iload_n 2, 1) := by decide +kernel
theorem d_Cb_canBe_61 : decode b_Cb_canBe 61 = .ok (.bipush 8, 2) := by decide +kernel
theorem d_Cb_canBe_63 : decode b_Cb_canBe 63 = .ok (.invokestatic 25, 3) := by decide +kernel
theorem d_Cb_canBe_66 : decode b_Cb_canBe 66 = .ok (.ireturn, 1) := by decide +kernel
theorem d_Cb_canBe_67 : decode b_Cb_canBe 67 = .ok (.iload_n 2, 1) := by decide +kernel
theorem d_Cb_canBe_68 : decode b_Cb_canBe 68 = .ok (.bipush 8, 2) := by decide +kernel
theorem d_Cb_canBe_70 : decode b_Cb_canBe 70 = .ok (.invokestatic 25, 3) := by decide +kernel
theorem d_Cb_canBe_73 : decode b_Cb_canBe 73 = .ok (.ireturn, 1) := by decide +kernel
theorem d_Cb_canBe_74 : decode b_Cb_canBe 74 = .ok (.iload_n 2, 1) := by decide +kernel
theorem d_Cb_canBe_75 : decode b_Cb_canBe 75 = .ok (.iconst 4, 1) := by decide +kernel
theorem d_Cb_canBe_76 : decode b_Cb_canBe 76 = .ok (.invokestatic 25, 3) := by decide +kernel
theorem d_Cb_canBe_79 : decode b_Cb_canBe 79 = .ok (.ireturn, 1) := by decide +kernel
theorem d_Cb_canBe_80 : decode b_Cb_canBe 80 = .ok (.iload_n 2, 1) := by decide +kernel
theorem d_Cb_canBe_81 : decode b_Cb_canBe 81 = .ok (.bipush 6, 2) := by decide +kernel
theorem d_Cb_canBe_83 : decode b_Cb_canBe 83 = .ok (.invokestatic 25, 3) := by decide +kernel
theorem d_Cb_canBe_86 : decode b_Cb_canBe 86 = .ok (.ireturn, 1) := by decide +kernel
theorem d_Cb_canBe_87 : decode b_Cb_canBe 87 = .ok (.iload_n 2, 1) := by decide +kernel
theorem d_Cb_canBe_88 : decode b_Cb_canBe 88 = .ok (.iconst 4, 1) := by decide +kernel
theorem d_Cb_canBe_89 : decode b_Cb_canBe 89 = .ok (.invokestatic 25, 3) := by decide +kernel
theorem d_Cb_canBe_92 : decode b_Cb_canBe 92 = .ok (.ireturn, 1) := by decide +kernel
theorem d_Cb_canBe_93 : decode b_Cb_canBe 93 = .ok (.iload_n 2, 1) := by decide +kernel
theorem d_Cb_canBe_94 : decode b_Cb_canBe 94 = .ok (.bipush 8, 2) := by decide +kernel
theorem d_Cb_canBe_96 : decode b_Cb_canBe 96 = .ok (.invokestatic 25, 3) := by decide +kernel
theorem d_Cb_canBe_99 : decode b_Cb_canBe 99 = .ok (.ifCond .eq 21, 3) := by decide +kernel
theorem d_Cb_canBe_102 : decode b_Cb_canBe 102 = .ok (.iload_n 3, 1) := by decide +kernel
theorem d_Cb_canBe_103 : decode b_Cb_canBe 103 = .ok (.bipush 8, 2) := by decide +kernel
theorem d_Cb_canBe_105 : decode b_Cb_canBe 105 = .ok (.invokestatic 25, 3) := by decide +kernel
theorem d_Cb_canBe_108 : decode b_Cb_canBe 108 = .ok (.ifCond .eq 12, 3) := by decide +kernel
theorem d_Cb_canBe_111 : decode b_Cb_canBe 111 = .ok (.iload_n 2, 1) := by decide +kernel
theorem d_Cb_canBe_112 : decode b_Cb_canBe 112 = .ok (.iload_n 3, 1) := by decide +kernel
theorem d_Cb_canBe_113 : decode b_Cb_canBe 113 = .ok (.if_icmp .gt 7, 3) := by decide +kernel
theorem d_Cb_canBe_116 : decode b_Cb_canBe 116 = .ok (.iconst 1, 1) := by decide +kernel
theorem d_Cb_canBe_117 : decode b_Cb_canBe 117 = .ok (.goto 4, 3) := by decide +kernel
theorem d_Cb_canBe_120 : decode b_Cb_canBe 120 = .ok (.iconst 0, 1) := by decide +kernel
theorem d_Cb_canBe_121 : decode b_Cb_canBe 121 = .ok (.ireturn, 1) := by decide +kernel
theorem d_Cb_canBe_122 : decode b_Cb_canBe 122 = .ok (.iload_n 2, 1) := by decide +kernel
theorem d_Cb_canBe_123 : decode b_Cb_canBe 123 = .ok (.aload_n 0, 1) := by decide +kernel
theorem d_Cb_canBe_124 : decode b_Cb_canBe 124 = .ok (.getfield 21, 3) := by decide +kernel
theorem d_Cb_canBe_127 : decode b_Cb_canBe 127 = .ok (.invokestatic 25, 3) := by decide +kernel
theorem d_Cb_canBe_130 : decode b_Cb_canBe 130 = .ok (.ireturn, 1) := by decide +kernel
theorem d_Cb_canBe_131 : decode b_Cb_canBe 131 = .ok (.iload_n 2, 1) := by decide +kernel
theorem d_Cb_canBe_132 : decode b_Cb_canBe 132 = .ok (.aload_n 0, 1) := by decide +kernel
theorem d_Cb_canBe_133 : decode b_Cb_canBe 133 = .ok (.getfield 21, 3) := by decide +kernel
theorem d_Cb_canBe_136 : decode b_Cb_canBe 136 = .ok (.invokestatic 25, 3) := by decide +kernel
theorem d_Cb_canBe_139 : decode b_Cb_canBe 139 = .ok (.ifCond .eq 18, 3) := by decide +kernel
theorem d_Cb_canBe_142 : decode b_Cb_canBe 142 = .ok (.iload_n 3, 1) := by decide +kernel
theorem d_Cb_canBe_143 : decode b_Cb_canBe 143 = .ok (.aload_n 0, 1) := by decide +kernel
theorem d_Cb_canBe_144 : decode b_Cb_canBe 144 = .ok (.getfield 21, 3) := by decide +kernel
theorem d_Cb_canBe_147 : decode b_Cb_canBe 147 = .ok (.invokestatic 25, 3) := by decide +kernel
theorem d_Cb_canBe_150 : decode b_Cb_canBe 150 = .ok (.ifCond .eq 7, 3) := by decide +kernel
theorem d_Cb_canBe_153 : decode b_Cb_canBe 153 = .ok (.iconst 1, 1) := by decide +kernel
theorem d_Cb_canBe_154 : decode b_Cb_canBe 154 = .ok (.goto 4, 3) := by decide +kernel
theorem d_Cb_canBe_157 : decode b_Cb_canBe 157 = .ok (.iconst 0, 1) := by decide +kernel
theorem d_Cb_canBe_158 : decode b_Cb_canBe 158 = .ok (.ireturn, 1) := by decide +kernel
theorem d_Cb_canBe_159 : decode b_Cb_canBe 159 = .ok (.iconst 1, 1) := by decide +kernel
theorem d_Cb_canBe_160 : decode b_Cb_canBe 160 = .ok (.ireturn, 1) := by decide +kernel
theorem d_Cb_canBe_161 : decode b_Cb_canBe 161 = .ok (.iload_n 2, 1) := by decide +kernel
theorem d_Cb_canBe_162 : decode b_Cb_canBe 162 = .ok (.aload_n 0, 1) := by decide +kernel
theorem d_Cb_canBe_163 : decode b_Cb_canBe 163 = .ok (.getfield 21, 3) := by decide +kernel
theorem d_Cb_canBe_166 : decode b_Cb_canBe 166 = .ok (.invokestatic 25, 3) := by decide +kernel
theorem d_Cb_canBe_169 : decode b_Cb_canBe 169 = .ok (.ifCond .eq 30, 3) := by decide +kernel
theorem d_Cb_canBe_172 : decode b_Cb_canBe 172 = .ok (.iload_n 3, 1) := by decide +kernel
theorem d_Cb_canBe_173 : decode b_Cb_canBe 173 = .ok (.aload_n 0, 1) := by decide +kernel
theorem d_Cb_canBe_174 : decode b_Cb_canBe 174 = .ok (.getfield 21, 3) := by decide +kernel
theorem d_Cb_canBe_177 : decode b_Cb_canBe 177 = .ok (.invokestatic 25, 3) := by decide +kernel
theorem d_Cb_canBe_180 : decode b_Cb_canBe 180 = .ok (.ifCond .eq 19, 3) := by decide +kernel
theorem d_Cb_canBe_183 : decode b_Cb_canBe 183 = .ok (.iload 4, 2) := by decide +kernel
theorem d_Cb_canBe_185 : decode b_Cb_canBe 185 = .ok (.aload_n 0, 1) := by decide +kernel
theorem d_Cb_canBe_186 : decode b_Cb_canBe 186 = .ok (.getfield 21, 3) := by decide +kernel
theorem d_Cb_canBe_189 : decode b_Cb_canBe 189 = .ok (.invokestatic 25, 3) := by decide +kernel
theorem d_Cb_canBe_192 : decode b_Cb_canBe 192 = .ok (.ifCond .eq 7, 3) := by decide +kernel
theorem d_Cb_canBe_195 : decode b_Cb_canBe 195 = .ok (.iconst 1, 1) := by decide +kernel
theorem d_Cb_canBe_196 : decode b_Cb_canBe 196 = .ok (.goto 4, 3) := by decide +kernel
theorem d_Cb_canBe_199 : decode b_Cb_canBe 199 = .ok (.iconst 0, 1) := by decide +kernel
theorem d_Cb_canBe_200 : decode b_Cb_canBe 200 = .ok (.ireturn, 1) := by decide +kernel
theorem d_Cb_canBe_201 : decode b_Cb_canBe 201 = .ok (.iconst 0, 1) := by decide +kernel
theorem d_Cb_canBe_202 : decode b_Cb_canBe 202 = .ok (.ireturn, 1) := by decide +kernel
theorem d_Cb_add_0 : decode b_Cb_add 0 = .ok (.aload_n 0, 1) := by decide +kernel
theorem d_Cb_add_1 : decode b_Cb_add 1 = .ok (.getfield 21, 3) := by decide +kernel
theorem d_Cb_add_4 : decode b_Cb_add 4 = .ok (.aload_n 0, 1) := by decide +kernel
theorem d_Cb_add_5 : decode b_Cb_add 5 = .ok (.getfield 11, 3) := by decide +kernel
theorem d_Cb_add_8 : decode b_Cb_add 8 = .ok (.arraylength, 1) := by decide +kernel
theorem d_Cb_add_9 : decode b_Cb_add 9 = .ok (.invokestatic 25, 3) := by decide +kernel
theorem d_Cb_add_12 : decode b_Cb_add 12 = .ok (.ifCond .ne 6, 3) := by decide +kernel
theorem d_Cb_add_15 : decode b_Cb_add 15 = .ok (.bipush (-3), 2) := by decide +kernel
theorem d_Cb_add_17 : decode b_Cb_add 17 = .ok (.ireturn, 1) := by decide +kernel
theorem d_Cb_add_18 : decode b_Cb_add 18 = .ok (.new 9, 3) := by decide +kernel
theorem d_Cb_add_21 : decode b_Cb_add 21 = .ok (.dup, 1) := by decide +kernel
theorem d_Cb_add_22 : decode b_Cb_add 22 = .ok (.iload_n 1, 1) := by decide +kernel
theorem d_Cb_add_23 : decode b_Cb_add 23 = .ok (.iload_n 2, 1) := by decide +kernel
theorem d_Cb_add_24 : decode b_Cb_add 24 = .ok (.iload_n 3, 1) := by decide +kernel
theorem d_Cb_add_25 : decode b_Cb_add 25 = .ok (.iload 4, 2) := by decide +kernel
theorem d_Cb_add_27 : decode b_Cb_add 27 = .ok (.invokespecial 29, 3) := by decide +kernel
theorem d_Cb_add_30 : decode b_Cb_add 30 = .ok (.astore 5, 2) := by decide +kernel
theorem d_Cb_add_32 : decode b_Cb_add 32 = .ok (.iconst 0, 1) := by decide +kernel
theorem d_Cb_add_33 : decode b_Cb_add 33 = .ok (.istore 6, 2) := by decide +kernel
theorem d_Cb_add_35 : decode b_Cb_add 35 = .ok (.iload 6, 2) := by decide +kernel
theorem d_Cb_add_37 : decode b_Cb_add 37 = .ok (.bipush 96, 2) := by decide +kernel
theorem d_Cb_add_39 : decode b_Cb_add 39 = .ok (.if_icmp .ge 24, 3) := by decide +kernel
theorem d_Cb_add_42 : decode b_Cb_add 42 = .ok (.aload 5, 2) := by decide +kernel
theorem d_Cb_add_44 : decode b_Cb_add 44 = .ok (.iload 6, 2) := by decide +kernel
theorem d_Cb_add_46 : decode b_Cb_add 46 = .ok (.aload_n 0, 1) := by decide +kernel
theorem d_Cb_add_47 : decode b_Cb_add 47 = .ok (.aload 5, 2) := by decide +kernel
theorem d_Cb_add_49 : decode b_Cb_add 49 = .ok (.iload 6, 2) := by decide +kernel
theorem d_Cb_add_51 : decode b_Cb_add 51 = .ok (.invokevirtual 32, 3) := by decide +kernel
theorem d_Cb_add_54 : decode b_Cb_add 54 = .ok (.invokevirtual 36, 3) := by decide +kernel
theorem d_Cb_add_57 : decode b_Cb_add 57 = .ok (.iinc 6 1, 3) := by decide +kernel
theorem d_Cb_add_60 : decode b_Cb_add 60 = .ok (.goto (-25), 3) := by decide +kernel
theorem d_Cb_add_63 : decode b_Cb_add 63 = .ok (.aload_n 0, 1) := by decide +kernel
theorem d_Cb_add_64 : decode b_Cb_add 64 = .ok (.getfield 11, 3) := by decide +kernel
theorem d_Cb_add_67 : decode b_Cb_add 67 = .ok (.aload_n 0, 1) := by decide +kernel
theorem d_Cb_add_68 : decode b_Cb_add 68 = .ok (.getfield 21, 3) := by decide +kernel
theorem d_Cb_add_71 : decode b_Cb_add 71 = .ok (.aload 5, 2) := by decide +kernel
theorem d_Cb_add_73 : decode b_Cb_add 73 = .ok (.aastore, 1) := by decide +kernel
theorem d_Cb_add_74 : decode b_Cb_add 74 = .ok (.aload_n 0, 1) := by decide +kernel
theorem d_Cb_add_75 : decode b_Cb_add 75 = .ok (.dup, 1) := by decide +kernel
theorem d_Cb_add_76 : decode b_Cb_add 76 = .ok (.getfield 21, 3) := by decide +kernel
theorem d_Cb_add_79 : decode b_Cb_add 79 = .ok (.iconst 1, 1) := by decide +kernel
theorem d_Cb_add_80 : decode b_Cb_add 80 = .ok (.iadd, 1) := by decide +kernel
theorem d_Cb_add_81 : decode b_Cb_add 81 = .ok (.putfield 21, 3) := by decide +kernel
theorem d_Cb_add_84 : decode b_Cb_add 84 = .ok (.aload_n 0, 1) := by decide +kernel
theorem d_Cb_add_85 : decode b_Cb_add 85 = .ok (.getfield 21, 3) := by decide +kernel
theorem d_Cb_add_88 : decode b_Cb_add 88 = .ok (.iconst 1, 1) := by decide +kernel
theorem d_Cb_add_89 : decode b_Cb_add 89 = .ok (.isub, 1) := by decide +kernel
theorem d_Cb_add_90 : decode b_Cb_add 90 = .ok (.ireturn, 1) := by decide +kernel
theorem d_Cb_setMember_0 : decode b_Cb_setMember 0 = .ok (.aload_n 0, 1) := by decide +kernel
theorem d_Cb_setMember_1 : decode b_Cb_setMember 1 = .ok (.iload_n 1, 1) := by decide +kernel
theorem d_Cb_setMember_2 : decode b_Cb_setMember 2 = .ok (.iload_n 2, 1) := by decide +kernel
theorem d_Cb_setMember_3 : decode b_Cb_setMember 3 = .ok (.invokevirtual 40, 3) := by decide +kernel
theorem d_Cb_setMember_6 : decode b_Cb_setMember 6 = .ok (.iload_n 3, 1) := by decide +kernel
theorem d_Cb_setMember_7 : decode b_Cb_setMember 7 = .ok (.if_icmp .ne 5, 3) := by decide +kernel
theorem d_Cb_setMember_10 : decode b_Cb_setMember 10 = .ok (.iconst 0, 1) := by decide +kernel
theorem d_Cb_setMember_11 : decode b_Cb_setMember 11 = .ok (.ireturn, 1) := by decide +kernel
theorem d_Cb_setMember_12 : decode b_Cb_setMember 12 = .ok (.iload_n 1, 1) := by decide +kernel
theorem d_Cb_setMember_13 : decode b_Cb_setMember 13 = .ok (.bipush 8, 2) := by decide +kernel
theorem d_Cb_setMember_15 : decode b_Cb_setMember 15 = .ok (.imul, 1) := by decide +kernel
theorem d_Cb_setMember_16 : decode b_Cb_setMember 16 = .ok (.iload_n 2, 1) := by decide +kernel
theorem d_Cb_setMember_17 : decode b_Cb_setMember 17 = .ok (.iadd, 1) := by decide +kernel
theorem d_Cb_setMember_18 : decode b_Cb_setMember 18 = .ok (.istore 4, 2) := by decide +kernel
theorem d_Cb_setMember_20 : decode b_Cb_setMember 20 = .ok (.iload 4, 2) := by decide +kernel
theorem d_Cb_setMember_22 : decode b_Cb_setMember 22 = .ok (.aload_n 0, 1) := by decide +kernel
theorem d_Cb_setMember_23 : decode b_Cb_setMember 23 = .ok (.getfield 17, 3) := by decide +kernel
theorem d_Cb_setMember_26 : decode b_Cb_setMember 26 = .ok (.arraylength, 1) := by decide +kernel
theorem d_Cb_setMember_27 : decode b_Cb_setMember 27 = .ok (.invokestatic 25, 3) := by decide +kernel
theorem d_Cb_setMember_30 : decode b_Cb_setMember 30 = .ok (.ifCond .eq 11, 3) := by decide +kernel
theorem d_Cb_setMember_33 : decode b_Cb_setMember 33 = .ok (.aload_n 0, 1) := by decide +kernel
theorem d_Cb_setMember_34 : decode b_Cb_setMember 34 = .ok (.getfield 17, 3) := by decide +kernel
theorem d_Cb_setMember_37 : decode b_Cb_setMember 37 = .ok (.iload 4, 2) := by decide +kernel
theorem d_Cb_setMember_39 : decode b_Cb_setMember 39 = .ok (.iload_n 3, 1) := by decide +kernel
theorem d_Cb_setMember_40 : decode b_Cb_setMember 40 = .ok (.bastore, 1) := by decide +kernel
theorem d_Cb_setMember_41 : decode b_Cb_setMember 41 = .ok (.aload_n 0, 1) := by decide +kernel
theorem d_Cb_setMember_42 : decode b_Cb_setMember 42 = .ok (.iload_n 1, 1) := by decide +kernel
theorem d_Cb_setMember_43 : decode b_Cb_setMember 43 = .ok (.invokevirtual 43, 3) := by decide +kernel
theorem d_Cb_setMember_46 : decode b_Cb_setMember 46 = .ok (.iconst 1, 1) := by decide +kernel
theorem d_Cb_setMember_47 : decode b_Cb_setMember 47 = .ok (.ireturn, 1) := by decide +kernel
theorem d_Cb_isMember_0 : decode b_Cb_isMember 0 = .ok (.iload_n 1, 1) := by decide +kernel
theorem d_Cb_isMember_1 : decode b_Cb_isMember 1 = .ok (.bipush 8, 2) := by decide +kernel
theorem d_Cb_isMember_3 : decode b_Cb_isMember 3 = .ok (.imul, 1) := by decide +kernel
theorem d_Cb_isMember_4 : decode b_Cb_isMember 4 = .ok (.iload_n 2, 1) := by decide +kernel
theorem d_Cb_isMember_5 : decode b_Cb_isMember 5 = .ok (.iadd, 1) := by decide +kernel
theorem d_Cb_isMember_6 : decode b_Cb_isMember 6 = .ok (.istore_n 3, 1) := by decide +kernel
theorem d_Cb_isMember_7 : decode b_Cb_isMember 7 = .ok (.iload_n 3, 1) := by decide +kernel
theorem d_Cb_isMember_8 : decode b_Cb_isMember 8 = .ok (.aload_n 0, 1) := by decide +kernel
theorem d_Cb_isMember_9 : decode b_Cb_isMember 9 = .ok (.getfield 17, 3) := by decide +kernel
theorem d_Cb_isMember_12 : decode b_Cb_isMember 12 = .ok (.arraylength, 1) := by decide +kernel
theorem d_Cb_isMember_13 : decode b_Cb_isMember 13 = .ok (.invokestatic 25, 3) := by decide +kernel
theorem d_Cb_isMember_16 : decode b_Cb_isMember 16 = .ok (.ifCond .eq 16, 3) := by decide +kernel
theorem d_Cb_isMember_19 : decode b_Cb_isMember 19 = .ok (.aload_n 0, 1) := by decide +kernel
theorem d_Cb_isMember_20 : decode b_Cb_isMember 20 = .ok (.getfield 17, 3) := by decide +kernel
theorem d_Cb_isMember_23 : decode b_Cb_isMember 23 = .ok (.iload_n 3, 1) := by decide +kernel
theorem d_Cb_isMember_24 : decode b_Cb_isMember 24 = .ok (.baload, 1) := by decide +kernel
theorem d_Cb_isMember_25 : decode b_Cb_isMember 25 = .ok (.ifCond .eq 7, 3) := by decide +kernel
theorem d_Cb_isMember_28 : decode b_Cb_isMember 28 = .ok (.iconst 1, 1) := by decide +kernel
theorem d_Cb_isMember_29 : decode b_Cb_isMember 29 = .ok (.goto 4, 3) := by decide +kernel
theorem d_Cb_isMember_32 : decode b_Cb_isMember 32 = .ok (.iconst 0, 1) := by decide +kernel
theorem d_Cb_isMember_33 : decode b_Cb_isMember 33 = .ok (.ireturn, 1) := by decide +kernel
theorem d_Cb_workOutAgain_0 : decode b_Cb_workOutAgain 0 = .ok (.iconst 0, 1) := by decide +kernel
theorem d_Cb_workOutAgain_1 : decode b_Cb_workOutAgain 1 = .ok (.istore_n 2, 1) := by decide +kernel
theorem d_Cb_workOutAgain_2 : decode b_Cb_workOutAgain 2 = .ok (.iload_n 2, 1) := by decide +kernel
theorem d_Cb_workOutAgain_3 : decode b_Cb_workOutAgain 3 = .ok (.bipush 60, 2) := by decide +kernel
theorem d_Cb_workOutAgain_5 : decode b_Cb_workOutAgain 5 = .ok (.if_icmp .ge 58, 3) := by decide +kernel
theorem d_Cb_workOutAgain_8 : decode b_Cb_workOutAgain 8 = .ok (.aload_n 0, 1) := by decide +kernel
theorem d_Cb_workOutAgain_9 : decode b_Cb_workOutAgain 9 = .ok (.iload_n 2, 1) := by decide +kernel
theorem d_Cb_workOutAgain_10 : decode b_Cb_workOutAgain 10 = .ok (.invokevirtual 47, 3) := by decide +kernel
theorem d_Cb_workOutAgain_13 : decode b_Cb_workOutAgain 13 = .ok (.astore_n 3, 1) := by decide +kernel
theorem d_Cb_workOutAgain_14 : decode b_Cb_workOutAgain 14 = .ok (.aload_n 3, 1) := by decide +kernel
theorem d_Cb_workOutAgain_15 : decode b_Cb_workOutAgain 15 = .ok (.ifnonnull 4, 3) := by decide +kernel
theorem d_Cb_workOutAgain_18 : decode b_Cb_workOutAgain 18 = .ok (.return_, 1) := by decide +kernel
theorem d_Cb_workOutAgain_19 : decode b_Cb_workOutAgain 19 = .ok (.iconst 0, 1) := by decide +kernel
theorem d_Cb_workOutAgain_20 : decode b_Cb_workOutAgain 20 = .ok (.istore 4, 2) := by decide +kernel
theorem d_Cb_workOutAgain_22 : decode b_Cb_workOutAgain 22 = .ok (.iload 4, 2) := by decide +kernel
theorem d_Cb_workOutAgain_24 : decode b_Cb_workOutAgain 24 = .ok (.bipush 12, 2) := by decide +kernel
theorem d_Cb_workOutAgain_26 : decode b_Cb_workOutAgain 26 = .ok (.if_icmp .ge 31, 3) := by decide +kernel
theorem d_Cb_workOutAgain_29 : decode b_Cb_workOutAgain 29 = .ok (.iload_n 1, 1) := by decide +kernel
theorem d_Cb_workOutAgain_30 : decode b_Cb_workOutAgain 30 = .ok (.bipush 12, 2) := by decide +kernel
theorem d_Cb_workOutAgain_32 : decode b_Cb_workOutAgain 32 = .ok (.imul, 1) := by decide +kernel
theorem d_Cb_workOutAgain_33 : decode b_Cb_workOutAgain 33 = .ok (.iload 4, 2) := by decide +kernel
theorem d_Cb_workOutAgain_35 : decode b_Cb_workOutAgain 35 = .ok (.iadd, 1) := by decide +kernel
theorem d_Cb_workOutAgain_36 : decode b_Cb_workOutAgain 36 = .ok (.istore 5, 2) := by decide +kernel
theorem d_Cb_workOutAgain_38 : decode b_Cb_workOutAgain 38 = .ok (.aload_n 3, 1) := by decide +kernel
theorem d_Cb_workOutAgain_39 : decode b_Cb_workOutAgain 39 = .ok (.iload 5, 2) := by decide +kernel
theorem d_Cb_workOutAgain_41 : decode b_Cb_workOutAgain 41 = .ok (.aload_n 0, 1) := by decide +kernel
theorem d_Cb_workOutAgain_42 : decode b_Cb_workOutAgain 42 = .ok (.aload_n 3, 1) := by decide +kernel
theorem d_Cb_workOutAgain_43 : decode b_Cb_workOutAgain 43 = .ok (.iload 5, 2) := by decide +kernel
theorem d_Cb_workOutAgain_45 : decode b_Cb_workOutAgain 45 = .ok (.invokevirtual 32, 3) := by decide +kernel
theorem d_Cb_workOutAgain_48 : decode b_Cb_workOutAgain 48 = .ok (.invokevirtual 36, 3) := by decide +kernel
theorem d_Cb_workOutAgain_51 : decode b_Cb_workOutAgain 51 = .ok (.iinc 4 1, 3) := by decide +kernel
theorem d_Cb_workOutAgain_54 : decode b_Cb_workOutAgain 54 = .ok (.goto (-32), 3) := by decide +kernel
theorem d_Cb_workOutAgain_57 : decode b_Cb_workOutAgain 57 = .ok (.iinc 2 1, 3) := by decide +kernel
theorem d_Cb_workOutAgain_60 : decode b_Cb_workOutAgain 60 = .ok (.goto (-58), 3) := by decide +kernel
theorem d_Cb_workOutAgain_63 : decode b_Cb_workOutAgain 63 = .ok (.return_, 1) := by decide +kernel
theorem d_Cb_workOut_0 : decode b_Cb_workOut 0 = .ok (.aload_n 1, 1) := by decide +kernel
theorem d_Cb_workOut_1 : decode b_Cb_workOut 1 = .ok (.getfield 51, 3) := by decide +kernel
theorem d_Cb_workOut_4 : decode b_Cb_workOut 4 = .ok (.tableswitch 136 0 5 #[40, 59, 82, 103, 112, 124], 40) := by decide +kernel
theorem d_Cb_workOut_44 : decode b_Cb_workOut 44 = .ok (.iload_n 2, 1) := by decide +kernel
theorem d_Cb_workOut_45 : decode b_Cb_workOut 45 = .ok (.bipush 12, 2) := by decide +kernel
theorem d_Cb_workOut_47 : decode b_Cb_workOut 47 = .ok (.idiv, 1) := by decide +kernel
theorem d_Cb_workOut_48 : decode b_Cb_workOut 48 = .ok (.aload_n 1, 1) := by decide +kernel
theorem d_Cb_workOut_49 : decode b_Cb_workOut 49 = .ok (.getfield 54, 3) := by decide +kernel
theorem d_Cb_workOut_52 : decode b_Cb_workOut 52 = .ok (.if_icmp .ne 9, 3) := by decide +kernel
theorem d_Cb_workOut_55 : decode b_Cb_workOut 55 = .ok (.ldc2_w 57, 3) := by decide +kernel
theorem d_Cb_workOut_58 : decode b_Cb_workOut 58 = .ok (.goto 4, 3) := by decide +kernel
theorem d_Cb_workOut_61 : decode b_Cb_workOut 61 = .ok (.lconst 0, 1) := by decide +kernel
theorem d_Cb_workOut_62 : decode b_Cb_workOut 62 = .ok (.lreturn, 1) := by decide +kernel
theorem d_Cb_workOut_63 : decode b_Cb_workOut 63 = .ok (.aload_n 0, 1) := by decide +kernel
theorem d_Cb_workOut_64 : decode b_Cb_workOut 64 = .ok (.iload_n 2, 1) := by decide +kernel
theorem d_Cb_workOut_65 : decode b_Cb_workOut 65 = .ok (.bipush 12, 2) := by decide +kernel
theorem d_Cb_workOut_67 : decode b_Cb_workOut 67 = .ok (.idiv, 1) := by decide +kernel
theorem d_Cb_workOut_68 : decode b_Cb_workOut 68 = .ok (.aload_n 1, 1) := by decide +kernel
theorem d_Cb_workOut_69 : decode b_Cb_workOut 69 = .ok (.getfield 54, 3) := by decide +kernel
theorem d_Cb_workOut_72 : decode b_Cb_workOut 72 = .ok (.invokevirtual 40, 3) := by decide +kernel
theorem d_Cb_workOut_75 : decode b_Cb_workOut 75 = .ok (.ifCond .eq 9, 3) := by decide +kernel
theorem d_Cb_workOut_78 : decode b_Cb_workOut 78 = .ok (.ldc2_w 57, 3) := by decide +kernel
theorem d_Cb_workOut_81 : decode b_Cb_workOut 81 = .ok (.goto 4, 3) := by decide +kernel
theorem d_Cb_workOut_84 : decode b_Cb_workOut 84 = .ok (.lconst 0, 1) := by decide +kernel
theorem d_Cb_workOut_85 : decode b_Cb_workOut 85 = .ok (.lreturn, 1) := by decide +kernel
theorem d_Cb_workOut_86 : decode b_Cb_workOut 86 = .ok (.iload_n 2, 1) := by decide +kernel
theorem d_Cb_workOut_87 : decode b_Cb_workOut 87 = .ok (.bipush 12, 2) := by decide +kernel
theorem d_Cb_workOut_89 : decode b_Cb_workOut 89 = .ok (.irem, 1) := by decide +kernel
theorem d_Cb_workOut_90 : decode b_Cb_workOut 90 = .ok (.iconst 3, 1) := by decide +kernel
theorem d_Cb_workOut_91 : decode b_Cb_workOut 91 = .ok (.idiv, 1) := by decide +kernel
theorem d_Cb_workOut_92 : decode b_Cb_workOut 92 = .ok (.aload_n 1, 1) := by decide +kernel
theorem d_Cb_workOut_93 : decode b_Cb_workOut 93 = .ok (.getfield 54, 3) := by decide +kernel
theorem d_Cb_workOut_96 : decode b_Cb_workOut 96 = .ok (.if_icmp .ne 9, 3) := by decide +kernel
theorem d_Cb_workOut_99 : decode b_Cb_workOut 99 = .ok (.ldc2_w 57, 3) := by decide +kernel
theorem d_Cb_workOut_102 : decode b_Cb_workOut 102 = .ok (.goto 4, 3) := by decide +kernel
theorem d_Cb_workOut_105 : decode b_Cb_workOut 105 = .ok (.lconst 0, 1) := by decide +kernel
theorem d_Cb_workOut_106 : decode b_Cb_workOut 106 = .ok (.lreturn, 1) := by decide +kernel
theorem d_Cb_workOut_107 : decode b_Cb_workOut 107 = .ok (.iload_n 2, 1) := by decide +kernel
theorem d_Cb_workOut_108 : decode b_Cb_workOut 108 = .ok (.aload_n 1, 1) := by decide +kernel
theorem d_Cb_workOut_109 : decode b_Cb_workOut 109 = .ok (.getfield 54, 3) := by decide +kernel
theorem d_Cb_workOut_112 : decode b_Cb_workOut 112 = .ok (.invokestatic 59, 3) := by decide +kernel
theorem d_Cb_workOut_115 : decode b_Cb_workOut 115 = .ok (.lreturn, 1) := by decide +kernel
theorem d_Cb_workOut_116 : decode b_Cb_workOut 116 = .ok (.ldc2_w 63, 3) := by decide +kernel
theorem d_Cb_workOut_119 : decode b_Cb_workOut 119 = .ok (.aload_n 1, 1) := by decide +kernel
theorem d_Cb_workOut_120 : decode b_Cb_workOut 120 = .ok (.getfield 54, 3) := by decide +kernel
theorem d_Cb_workOut_123 : decode b_Cb_workOut 123 = .ok (.bipush 8, 2) := by decide +kernel
theorem d_Cb_workOut_125 : decode b_Cb_workOut 125 = .ok (.imul, 1) := by decide +kernel
theorem d_Cb_workOut_126 : decode b_Cb_workOut 126 = .ok (.lshl, 1) := by decide +kernel
theorem d_Cb_workOut_127 : decode b_Cb_workOut 127 = .ok (.lreturn, 1) := by decide +kernel
theorem d_Cb_workOut_128 : decode b_Cb_workOut 128 = .ok (.aload_n 1, 1) := by decide +kernel
theorem d_Cb_workOut_129 : decode b_Cb_workOut 129 = .ok (.getfield 54, 3) := by decide +kernel
theorem d_Cb_workOut_132 : decode b_Cb_workOut 132 = .ok (.aload_n 1, 1) := by decide +kernel
theorem d_Cb_workOut_133 : decode b_Cb_workOut 133 = .ok (.getfield 65, 3) := by decide +kernel
theorem d_Cb_workOut_136 : decode b_Cb_workOut 136 = .ok (.invokestatic 68, 3) := by decide +kernel
theorem d_Cb_workOut_139 : decode b_Cb_workOut 139 = .ok (.lreturn, 1) := by decide +kernel
theorem d_Cb_workOut_140 : decode b_Cb_workOut 140 = .ok (.aload_n 0, 1) := by decide +kernel
theorem d_Cb_workOut_141 : decode b_Cb_workOut 141 = .ok (.aload_n 1, 1) := by decide +kernel
theorem d_Cb_workOut_142 : decode b_Cb_workOut 142 = .ok (.iload_n 2, 1) := by decide +kernel
theorem d_Cb_workOut_143 : decode b_Cb_workOut 143 = .ok (.invokevirtual 71, 3) := by decide +kernel
theorem d_Cb_workOut_146 : decode b_Cb_workOut 146 = .ok (.lreturn, 1) := by decide +kernel
theorem d_Cb_predicateIn_0 : decode b_Cb_predicateIn 0 = .ok (.iload_n 0, 1) := by decide +kernel
theorem d_Cb_predicateIn_1 : decode b_Cb_predicateIn 1 = .ok (.iconst 3, 1) := by decide +kernel
theorem d_Cb_predicateIn_2 : decode b_Cb_predicateIn 2 = .ok (.irem, 1) := by decide +kernel
theorem d_Cb_predicateIn_3 : decode b_Cb_predicateIn 3 = .ok (.iload_n 1, 1) := by decide +kernel
theorem d_Cb_predicateIn_4 : decode b_Cb_predicateIn 4 = .ok (.iconst 2, 1) := by decide +kernel
theorem d_Cb_predicateIn_5 : decode b_Cb_predicateIn 5 = .ok (.idiv, 1) := by decide +kernel
theorem d_Cb_predicateIn_6 : decode b_Cb_predicateIn 6 = .ok (.if_icmp .eq 5, 3) := by decide +kernel
theorem d_Cb_predicateIn_9 : decode b_Cb_predicateIn 9 = .ok (.lconst 0, 1) := by decide +kernel
theorem d_Cb_predicateIn_10 : decode b_Cb_predicateIn 10 = .ok (.lreturn, 1) := by decide +kernel
theorem d_Cb_predicateIn_11 : decode b_Cb_predicateIn 11 = .ok (.ldc2_w 74, 3) := by decide +kernel
theorem d_Cb_predicateIn_14 : decode b_Cb_predicateIn 14 = .ok (.iload_n 1, 1) := by decide +kernel
theorem d_Cb_predicateIn_15 : decode b_Cb_predicateIn 15 = .ok (.iconst 2, 1) := by decide +kernel
theorem d_Cb_predicateIn_16 : decode b_Cb_predicateIn 16 = .ok (.irem, 1) := by decide +kernel
theorem d_Cb_predicateIn_17 : decode b_Cb_predicateIn 17 = .ok (.iconst 4, 1) := by decide +kernel
theorem d_Cb_predicateIn_18 : decode b_Cb_predicateIn 18 = .ok (.imul, 1) := by decide +kernel
theorem d_Cb_predicateIn_19 : decode b_Cb_predicateIn 19 = .ok (.bipush 8, 2) := by decide +kernel
theorem d_Cb_predicateIn_21 : decode b_Cb_predicateIn 21 = .ok (.imul, 1) := by decide +kernel
theorem d_Cb_predicateIn_22 : decode b_Cb_predicateIn 22 = .ok (.lshl, 1) := by decide +kernel
theorem d_Cb_predicateIn_23 : decode b_Cb_predicateIn 23 = .ok (.lreturn, 1) := by decide +kernel
theorem d_Cb_putTogether_0 : decode b_Cb_putTogether 0 = .ok (.aload_n 1, 1) := by decide +kernel
theorem d_Cb_putTogether_1 : decode b_Cb_putTogether 1 = .ok (.getfield 51, 3) := by decide +kernel
theorem d_Cb_putTogether_4 : decode b_Cb_putTogether 4 = .ok (.tableswitch 125 6 10 #[36, 50, 70, 90, 94], 36) := by decide +kernel
theorem d_Cb_putTogether_40 : decode b_Cb_putTogether 40 = .ok (.aload_n 0, 1) := by decide +kernel
theorem d_Cb_putTogether_41 : decode b_Cb_putTogether 41 = .ok (.aload_n 1, 1) := by decide +kernel
theorem d_Cb_putTogether_42 : decode b_Cb_putTogether 42 = .ok (.getfield 54, 3) := by decide +kernel
theorem d_Cb_putTogether_45 : decode b_Cb_putTogether 45 = .ok (.iload_n 2, 1) := by decide +kernel
theorem d_Cb_putTogether_46 : decode b_Cb_putTogether 46 = .ok (.invokevirtual 76, 3) := by decide +kernel
theorem d_Cb_putTogether_49 : decode b_Cb_putTogether 49 = .ok (.ldc2_w 57, 3) := by decide +kernel
theorem d_Cb_putTogether_52 : decode b_Cb_putTogether 52 = .ok (.lxor, 1) := by decide +kernel
theorem d_Cb_putTogether_53 : decode b_Cb_putTogether 53 = .ok (.lreturn, 1) := by decide +kernel
theorem d_Cb_putTogether_54 : decode b_Cb_putTogether 54 = .ok (.aload_n 0, 1) := by decide +kernel
theorem d_Cb_putTogether_55 : decode b_Cb_putTogether 55 = .ok (.aload_n 1, 1) := by decide +kernel
theorem d_Cb_putTogether_56 : decode b_Cb_putTogether 56 = .ok (.getfield 54, 3) := by decide +kernel
theorem d_Cb_putTogether_59 : decode b_Cb_putTogether 59 = .ok (.iload_n 2, 1) := by decide +kernel
theorem d_Cb_putTogether_60 : decode b_Cb_putTogether 60 = .ok (.invokevirtual 76, 3) := by decide +kernel
theorem d_Cb_putTogether_63 : decode b_Cb_putTogether 63 = .ok (.aload_n 0, 1) := by decide +kernel
theorem d_Cb_putTogether_64 : decode b_Cb_putTogether 64 = .ok (.aload_n 1, 1) := by decide +kernel
theorem d_Cb_putTogether_65 : decode b_Cb_putTogether 65 = .ok (.getfield 65, 3) := by decide +kernel
theorem d_Cb_putTogether_68 : decode b_Cb_putTogether 68 = .ok (.iload_n 2, 1) := by decide +kernel
theorem d_Cb_putTogether_69 : decode b_Cb_putTogether 69 = .ok (.invokevirtual 76, 3) := by decide +kernel
theorem d_Cb_putTogether_72 : decode b_Cb_putTogether 72 = .ok (.land, 1) := by decide +kernel
theorem d_Cb_putTogether_73 : decode b_Cb_putTogether 73 = .ok (.lreturn, 1) := by decide +kernel
theorem d_Cb_putTogether_74 : decode b_Cb_putTogether 74 = .ok (.aload_n 0, 1) := by decide +kernel
theorem d_Cb_putTogether_75 : decode b_Cb_putTogether 75 = .ok (.aload_n 1, 1) := by decide +kernel
theorem d_Cb_putTogether_76 : decode b_Cb_putTogether 76 = .ok (.getfield 54, 3) := by decide +kernel
theorem d_Cb_putTogether_79 : decode b_Cb_putTogether 79 = .ok (.iload_n 2, 1) := by decide +kernel
theorem d_Cb_putTogether_80 : decode b_Cb_putTogether 80 = .ok (.invokevirtual 76, 3) := by decide +kernel
theorem d_Cb_putTogether_83 : decode b_Cb_putTogether 83 = .ok (.aload_n 0, 1) := by decide +kernel
theorem d_Cb_putTogether_84 : decode b_Cb_putTogether 84 = .ok (.aload_n 1, 1) := by decide +kernel
theorem d_Cb_putTogether_85 : decode b_Cb_putTogether 85 = .ok (.getfield 65, 3) := by decide +kernel
theorem d_Cb_putTogether_88 : decode b_Cb_putTogether 88 = .ok (.iload_n 2, 1) := by decide +kernel
theorem d_Cb_putTogether_89 : decode b_Cb_putTogether 89 = .ok (.invokevirtual 76, 3) := by decide +kernel
theorem d_Cb_putTogether_92 : decode b_Cb_putTogether 92 = .ok (.lor, 1) := by decide +kernel
theorem d_Cb_putTogether_93 : decode b_Cb_putTogether 93 = .ok (.lreturn, 1) := by decide +kernel
theorem d_Cb_putTogether_94 : decode b_Cb_putTogether 94 = .ok (.ldc2_w 57, 3) := by decide +kernel
theorem d_Cb_putTogether_97 : decode b_Cb_putTogether 97 = .ok (.lreturn, 1) := by decide +kernel
theorem d_Cb_putTogether_98 : decode b_Cb_putTogether 98 = .ok (.aload_n 0, 1) := by decide +kernel
theorem d_Cb_putTogether_99 : decode b_Cb_putTogether 99 = .ok (.aload_n 1, 1) := by decide +kernel
theorem d_Cb_putTogether_100 : decode b_Cb_putTogether 100 = .ok (.getfield 54, 3) := by decide +kernel
theorem d_Cb_putTogether_103 : decode b_Cb_putTogether 103 = .ok (.iload_n 2, 1) := by decide +kernel
theorem d_Cb_putTogether_104 : decode b_Cb_putTogether 104 = .ok (.invokevirtual 76, 3) := by decide +kernel
theorem d_Cb_putTogether_107 : decode b_Cb_putTogether 107 = .ok (.aload_n 0, 1) := by decide +kernel
theorem d_Cb_putTogether_108 : decode b_Cb_putTogether 108 = .ok (.aload_n 1, 1) := by decide +kernel
theorem d_Cb_putTogether_109 : decode b_Cb_putTogether 109 = .ok (.getfield 65, 3) := by decide +kernel
theorem d_Cb_putTogether_112 : decode b_Cb_putTogether 112 = .ok (.iload_n 2, 1) := by decide +kernel
theorem d_Cb_putTogether_113 : decode b_Cb_putTogether 113 = .ok (.invokevirtual 76, 3) := by decide +kernel
theorem d_Cb_putTogether_116 : decode b_Cb_putTogether 116 = .ok (.aload_n 0, 1) := by decide +kernel
theorem d_Cb_putTogether_117 : decode b_Cb_putTogether 117 = .ok (.aload_n 1, 1) := by decide +kernel
theorem d_Cb_putTogether_118 : decode b_Cb_putTogether 118 = .ok (.getfield 79, 3) := by decide +kernel
theorem d_Cb_putTogether_121 : decode b_Cb_putTogether 121 = .ok (.iload_n 2, 1) := by decide +kernel
theorem d_Cb_putTogether_122 : decode b_Cb_putTogether 122 = .ok (.invokevirtual 76, 3) := by decide +kernel
theorem d_Cb_putTogether_125 : decode b_Cb_putTogether 125 = .ok (.invokestatic 82, 3) := by decide +kernel
theorem d_Cb_putTogether_128 : decode b_Cb_putTogether 128 = .ok (.lreturn, 1) := by decide +kernel
theorem d_Cb_putTogether_129 : decode b_Cb_putTogether 129 = .ok (.lconst 0, 1) := by decide +kernel
theorem d_Cb_putTogether_130 : decode b_Cb_putTogether 130 = .ok (.lreturn, 1) := by decide +kernel
theorem d_Cb_twoOfThree_0 : decode b_Cb_twoOfThree 0 = .ok (.lload_n 0, 1) := by decide +kernel
theorem d_Cb_twoOfThree_1 : decode b_Cb_twoOfThree 1 = .ok (.lload_n 2, 1) := by decide +kernel
theorem d_Cb_twoOfThree_2 : decode b_Cb_twoOfThree 2 = .ok (.land, 1) := by decide +kernel
theorem d_Cb_twoOfThree_3 : decode b_Cb_twoOfThree 3 = .ok (.lload_n 0, 1) := by decide +kernel
theorem d_Cb_twoOfThree_4 : decode b_Cb_twoOfThree 4 = .ok (.lload 4, 2) := by decide +kernel
theorem d_Cb_twoOfThree_6 : decode b_Cb_twoOfThree 6 = .ok (.land, 1) := by decide +kernel
theorem d_Cb_twoOfThree_7 : decode b_Cb_twoOfThree 7 = .ok (.lor, 1) := by decide +kernel
theorem d_Cb_twoOfThree_8 : decode b_Cb_twoOfThree 8 = .ok (.lload_n 2, 1) := by decide +kernel
theorem d_Cb_twoOfThree_9 : decode b_Cb_twoOfThree 9 = .ok (.lload 4, 2) := by decide +kernel
theorem d_Cb_twoOfThree_11 : decode b_Cb_twoOfThree 11 = .ok (.land, 1) := by decide +kernel
theorem d_Cb_twoOfThree_12 : decode b_Cb_twoOfThree 12 = .ok (.lor, 1) := by decide +kernel
theorem d_Cb_twoOfThree_13 : decode b_Cb_twoOfThree 13 = .ok (.lreturn, 1) := by decide +kernel
theorem d_Cb_wordOf_0 : decode b_Cb_wordOf 0 = .ok (.aload_n 0, 1) := by decide +kernel
theorem d_Cb_wordOf_1 : decode b_Cb_wordOf 1 = .ok (.iload_n 1, 1) := by decide +kernel
theorem d_Cb_wordOf_2 : decode b_Cb_wordOf 2 = .ok (.invokevirtual 47, 3) := by decide +kernel
theorem d_Cb_wordOf_5 : decode b_Cb_wordOf 5 = .ok (.astore_n 3, 1) := by decide +kernel
theorem d_Cb_wordOf_6 : decode b_Cb_wordOf 6 = .ok (.aload_n 3, 1) := by decide +kernel
theorem d_Cb_wordOf_7 : decode b_Cb_wordOf 7 = .ok (.ifnonnull 7, 3) := by decide +kernel
theorem d_Cb_wordOf_10 : decode b_Cb_wordOf 10 = .ok (.lconst 0, 1) := by decide +kernel
theorem d_Cb_wordOf_11 : decode b_Cb_wordOf 11 = .ok (.goto 8, 3) := by decide +kernel
theorem d_Cb_wordOf_14 : decode b_Cb_wordOf 14 = .ok (.aload_n 3, 1) := by decide +kernel
theorem d_Cb_wordOf_15 : decode b_Cb_wordOf 15 = .ok (.iload_n 2, 1) := by decide +kernel
theorem d_Cb_wordOf_16 : decode b_Cb_wordOf 16 = .ok (.invokevirtual 86, 3) := by decide +kernel
theorem d_Cb_wordOf_19 : decode b_Cb_wordOf 19 = .ok (.lreturn, 1) := by decide +kernel
theorem d_Ru_init_0 : decode b_Ru_init 0 = .ok (.aload_n 0, 1) := by decide +kernel
theorem d_Ru_init_1 : decode b_Ru_init 1 = .ok (.invokespecial 1, 3) := by decide +kernel
theorem d_Ru_init_4 : decode b_Ru_init 4 = .ok (.aload_n 0, 1) := by decide +kernel
theorem d_Ru_init_5 : decode b_Ru_init 5 = .ok (.iload_n 1, 1) := by decide +kernel
theorem d_Ru_init_6 : decode b_Ru_init 6 = .ok (.putfield 7, 3) := by decide +kernel
theorem d_Ru_init_9 : decode b_Ru_init 9 = .ok (.aload_n 0, 1) := by decide +kernel
theorem d_Ru_init_10 : decode b_Ru_init 10 = .ok (.iload_n 2, 1) := by decide +kernel
theorem d_Ru_init_11 : decode b_Ru_init 11 = .ok (.putfield 13, 3) := by decide +kernel
theorem d_Ru_init_14 : decode b_Ru_init 14 = .ok (.aload_n 0, 1) := by decide +kernel
theorem d_Ru_init_15 : decode b_Ru_init 15 = .ok (.iload_n 3, 1) := by decide +kernel
theorem d_Ru_init_16 : decode b_Ru_init 16 = .ok (.putfield 16, 3) := by decide +kernel
theorem d_Ru_init_19 : decode b_Ru_init 19 = .ok (.aload_n 0, 1) := by decide +kernel
theorem d_Ru_init_20 : decode b_Ru_init 20 = .ok (.aload 4, 2) := by decide +kernel
theorem d_Ru_init_22 : decode b_Ru_init 22 = .ok (.putfield 20, 3) := by decide +kernel
theorem d_Ru_init_25 : decode b_Ru_init 25 = .ok (.return_, 1) := by decide +kernel
theorem d_Ru_word_0 : decode b_Ru_word 0 = .ok (.aload_n 0, 1) := by decide +kernel
theorem d_Ru_word_1 : decode b_Ru_word 1 = .ok (.getfield 20, 3) := by decide +kernel
theorem d_Ru_word_4 : decode b_Ru_word 4 = .ok (.iload_n 1, 1) := by decide +kernel
theorem d_Ru_word_5 : decode b_Ru_word 5 = .ok (.invokevirtual 24, 3) := by decide +kernel
theorem d_Ru_word_8 : decode b_Ru_word 8 = .ok (.lreturn, 1) := by decide +kernel
theorem d_Ru_goesBefore_0 : decode b_Ru_goesBefore 0 = .ok (.aload_n 0, 1) := by decide +kernel
theorem d_Ru_goesBefore_1 : decode b_Ru_goesBefore 1 = .ok (.getfield 13, 3) := by decide +kernel
theorem d_Ru_goesBefore_4 : decode b_Ru_goesBefore 4 = .ok (.aload_n 1, 1) := by decide +kernel
theorem d_Ru_goesBefore_5 : decode b_Ru_goesBefore 5 = .ok (.getfield 13, 3) := by decide +kernel
theorem d_Ru_goesBefore_8 : decode b_Ru_goesBefore 8 = .ok (.if_icmp .lt 28, 3) := by decide +kernel
theorem d_Ru_goesBefore_11 : decode b_Ru_goesBefore 11 = .ok (.aload_n 0, 1) := by decide +kernel
theorem d_Ru_goesBefore_12 : decode b_Ru_goesBefore 12 = .ok (.getfield 13, 3) := by decide +kernel
theorem d_Ru_goesBefore_15 : decode b_Ru_goesBefore 15 = .ok (.aload_n 1, 1) := by decide +kernel
theorem d_Ru_goesBefore_16 : decode b_Ru_goesBefore 16 = .ok (.getfield 13, 3) := by decide +kernel
theorem d_Ru_goesBefore_19 : decode b_Ru_goesBefore 19 = .ok (.if_icmp .ne 21, 3) := by decide +kernel
theorem d_Ru_goesBefore_22 : decode b_Ru_goesBefore 22 = .ok (.aload_n 0, 1) := by decide +kernel
theorem d_Ru_goesBefore_23 : decode b_Ru_goesBefore 23 = .ok (.getfield 16, 3) := by decide +kernel
theorem d_Ru_goesBefore_26 : decode b_Ru_goesBefore 26 = .ok (.ifCond .eq 14, 3) := by decide +kernel
theorem d_Ru_goesBefore_29 : decode b_Ru_goesBefore 29 = .ok (.aload_n 1, 1) := by decide +kernel
theorem d_Ru_goesBefore_30 : decode b_Ru_goesBefore 30 = .ok (.getfield 16, 3) := by decide +kernel
theorem d_Ru_goesBefore_33 : decode b_Ru_goesBefore 33 = .ok (.ifCond .ne 7, 3) := by decide +kernel
theorem d_Ru_goesBefore_36 : decode b_Ru_goesBefore 36 = .ok (.iconst 1, 1) := by decide +kernel
theorem d_Ru_goesBefore_37 : decode b_Ru_goesBefore 37 = .ok (.goto 4, 3) := by decide +kernel
theorem d_Ru_goesBefore_40 : decode b_Ru_goesBefore 40 = .ok (.iconst 0, 1) := by decide +kernel
theorem d_Ru_goesBefore_41 : decode b_Ru_goesBefore 41 = .ok (.ireturn, 1) := by decide +kernel
theorem d_Ru_rankBehind_0 : decode b_Ru_rankBehind 0 = .ok (.iload_n 1, 1) := by decide +kernel
theorem d_Ru_rankBehind_1 : decode b_Ru_rankBehind 1 = .ok (.ifCond .eq 19, 3) := by decide +kernel
theorem d_Ru_rankBehind_4 : decode b_Ru_rankBehind 4 = .ok (.aload_n 0, 1) := by decide +kernel
theorem d_Ru_rankBehind_5 : decode b_Ru_rankBehind 5 = .ok (.getfield 16, 3) := by decide +kernel
theorem d_Ru_rankBehind_8 : decode b_Ru_rankBehind 8 = .ok (.ifCond .ne 12, 3) := by decide +kernel
theorem d_Ru_rankBehind_11 : decode b_Ru_rankBehind 11 = .ok (.aload_n 0, 1) := by decide +kernel
theorem d_Ru_rankBehind_12 : decode b_Ru_rankBehind 12 = .ok (.getfield 13, 3) := by decide +kernel
theorem d_Ru_rankBehind_15 : decode b_Ru_rankBehind 15 = .ok (.iconst 1, 1) := by decide +kernel
theorem d_Ru_rankBehind_16 : decode b_Ru_rankBehind 16 = .ok (.iadd, 1) := by decide +kernel
theorem d_Ru_rankBehind_17 : decode b_Ru_rankBehind 17 = .ok (.goto 7, 3) := by decide +kernel
theorem d_Ru_rankBehind_20 : decode b_Ru_rankBehind 20 = .ok (.aload_n 0, 1) := by decide +kernel
theorem d_Ru_rankBehind_21 : decode b_Ru_rankBehind 21 = .ok (.getfield 13, 3) := by decide +kernel
theorem d_Ru_rankBehind_24 : decode b_Ru_rankBehind 24 = .ok (.ireturn, 1) := by decide +kernel
theorem d_Lo_bitCount_0 : decode b_Lo_bitCount 0 = .ok (.lload_n 0, 1) := by decide +kernel
theorem d_Lo_bitCount_1 : decode b_Lo_bitCount 1 = .ok (.lload_n 0, 1) := by decide +kernel
theorem d_Lo_bitCount_2 : decode b_Lo_bitCount 2 = .ok (.iconst 1, 1) := by decide +kernel
theorem d_Lo_bitCount_3 : decode b_Lo_bitCount 3 = .ok (.lushr, 1) := by decide +kernel
theorem d_Lo_bitCount_4 : decode b_Lo_bitCount 4 = .ok (.ldc2_w 314, 3) := by decide +kernel
theorem d_Lo_bitCount_7 : decode b_Lo_bitCount 7 = .ok (.land, 1) := by decide +kernel
theorem d_Lo_bitCount_8 : decode b_Lo_bitCount 8 = .ok (.lsub, 1) := by decide +kernel
theorem d_Lo_bitCount_9 : decode b_Lo_bitCount 9 = .ok (.lstore_n 0, 1) := by decide +kernel
theorem d_Lo_bitCount_10 : decode b_Lo_bitCount 10 = .ok (.lload_n 0, 1) := by decide +kernel
theorem d_Lo_bitCount_11 : decode b_Lo_bitCount 11 = .ok (.ldc2_w 316, 3) := by decide +kernel
theorem d_Lo_bitCount_14 : decode b_Lo_bitCount 14 = .ok (.land, 1) := by decide +kernel
theorem d_Lo_bitCount_15 : decode b_Lo_bitCount 15 = .ok (.lload_n 0, 1) := by decide +kernel
theorem d_Lo_bitCount_16 : decode b_Lo_bitCount 16 = .ok (.iconst 2, 1) := by decide +kernel
theorem d_Lo_bitCount_17 : decode b_Lo_bitCount 17 = .ok (.lushr, 1) := by decide +kernel
theorem d_Lo_bitCount_18 : decode b_Lo_bitCount 18 = .ok (.ldc2_w 316, 3) := by decide +kernel
theorem d_Lo_bitCount_21 : decode b_Lo_bitCount 21 = .ok (.land, 1) := by decide +kernel
theorem d_Lo_bitCount_22 : decode b_Lo_bitCount 22 = .ok (.ladd, 1) := by decide +kernel
theorem d_Lo_bitCount_23 : decode b_Lo_bitCount 23 = .ok (.lstore_n 0, 1) := by decide +kernel
theorem d_Lo_bitCount_24 : decode b_Lo_bitCount 24 = .ok (.lload_n 0, 1) := by decide +kernel
theorem d_Lo_bitCount_25 : decode b_Lo_bitCount 25 = .ok (.lload_n 0, 1) := by decide +kernel
theorem d_Lo_bitCount_26 : decode b_Lo_bitCount 26 = .ok (.iconst 4, 1) := by decide +kernel
theorem d_Lo_bitCount_27 : decode b_Lo_bitCount 27 = .ok (.lushr, 1) := by decide +kernel
theorem d_Lo_bitCount_28 : decode b_Lo_bitCount 28 = .ok (.ladd, 1) := by decide +kernel
theorem d_Lo_bitCount_29 : decode b_Lo_bitCount 29 = .ok (.ldc2_w 318, 3) := by decide +kernel
theorem d_Lo_bitCount_32 : decode b_Lo_bitCount 32 = .ok (.land, 1) := by decide +kernel
theorem d_Lo_bitCount_33 : decode b_Lo_bitCount 33 = .ok (.lstore_n 0, 1) := by decide +kernel
theorem d_Lo_bitCount_34 : decode b_Lo_bitCount 34 = .ok (.lload_n 0, 1) := by decide +kernel
theorem d_Lo_bitCount_35 : decode b_Lo_bitCount 35 = .ok (.lload_n 0, 1) := by decide +kernel
theorem d_Lo_bitCount_36 : decode b_Lo_bitCount 36 = .ok (.bipush 8, 2) := by decide +kernel
theorem d_Lo_bitCount_38 : decode b_Lo_bitCount 38 = .ok (.lushr, 1) := by decide +kernel
theorem d_Lo_bitCount_39 : decode b_Lo_bitCount 39 = .ok (.ladd, 1) := by decide +kernel
theorem d_Lo_bitCount_40 : decode b_Lo_bitCount 40 = .ok (.lstore_n 0, 1) := by decide +kernel
theorem d_Lo_bitCount_41 : decode b_Lo_bitCount 41 = .ok (.lload_n 0, 1) := by decide +kernel
theorem d_Lo_bitCount_42 : decode b_Lo_bitCount 42 = .ok (.lload_n 0, 1) := by decide +kernel
theorem d_Lo_bitCount_43 : decode b_Lo_bitCount 43 = .ok (.bipush 16, 2) := by decide +kernel
theorem d_Lo_bitCount_45 : decode b_Lo_bitCount 45 = .ok (.lushr, 1) := by decide +kernel
theorem d_Lo_bitCount_46 : decode b_Lo_bitCount 46 = .ok (.ladd, 1) := by decide +kernel
theorem d_Lo_bitCount_47 : decode b_Lo_bitCount 47 = .ok (.lstore_n 0, 1) := by decide +kernel
theorem d_Lo_bitCount_48 : decode b_Lo_bitCount 48 = .ok (.lload_n 0, 1) := by decide +kernel
theorem d_Lo_bitCount_49 : decode b_Lo_bitCount 49 = .ok (.lload_n 0, 1) := by decide +kernel
theorem d_Lo_bitCount_50 : decode b_Lo_bitCount 50 = .ok (.bipush 32, 2) := by decide +kernel
theorem d_Lo_bitCount_52 : decode b_Lo_bitCount 52 = .ok (.lushr, 1) := by decide +kernel
theorem d_Lo_bitCount_53 : decode b_Lo_bitCount 53 = .ok (.ladd, 1) := by decide +kernel
theorem d_Lo_bitCount_54 : decode b_Lo_bitCount 54 = .ok (.lstore_n 0, 1) := by decide +kernel
theorem d_Lo_bitCount_55 : decode b_Lo_bitCount 55 = .ok (.lload_n 0, 1) := by decide +kernel
theorem d_Lo_bitCount_56 : decode b_Lo_bitCount 56 = .ok (.l2i, 1) := by decide +kernel
theorem d_Lo_bitCount_57 : decode b_Lo_bitCount 57 = .ok (.bipush 127, 2) := by decide +kernel
theorem d_Lo_bitCount_59 : decode b_Lo_bitCount 59 = .ok (.iand, 1) := by decide +kernel
theorem d_Lo_bitCount_60 : decode b_Lo_bitCount 60 = .ok (.ireturn, 1) := by decide +kernel
end
section
theorem d_De_init_0 : decode b_De_init 0 = .ok (.aload_n 0, 1) := by decide +kernel
theorem d_De_init_1 : decode b_De_init 1 = .ok (.invokespecial 1, 3) := by decide +kernel
theorem d_De_init_4 : decode b_De_init 4 = .ok (.aload_n 0, 1) := by decide +kernel
theorem d_De_init_5 : decode b_De_init 5 = .ok (.new 7, 3) := by decide +kernel
theorem d_De_init_8 : decode b_De_init 8 = .ok (.dup, 1) := by decide +kernel
theorem d_De_init_9 : decode b_De_init 9 = .ok (.invokespecial 9, 3) := by decide +kernel
theorem d_De_init_12 : decode b_De_init 12 = .ok (.putfield 10, 3) := by decide +kernel
theorem d_De_init_15 : decode b_De_init 15 = .ok (.aload_n 0, 1) := by decide +kernel
theorem d_De_init_16 : decode b_De_init 16 = .ok (.new 16, 3) := by decide +kernel
theorem d_De_init_19 : decode b_De_init 19 = .ok (.dup, 1) := by decide +kernel
theorem d_De_init_20 : decode b_De_init 20 = .ok (.invokespecial 18, 3) := by decide +kernel
theorem d_De_init_23 : decode b_De_init 23 = .ok (.putfield 19, 3) := by decide +kernel
theorem d_De_init_26 : decode b_De_init 26 = .ok (.return_, 1) := by decide +kernel
theorem d_De_member_0 : decode b_De_member 0 = .ok (.iload_n 1, 1) := by decide +kernel
theorem d_De_member_1 : decode b_De_member 1 = .ok (.bipush 8, 2) := by decide +kernel
theorem d_De_member_3 : decode b_De_member 3 = .ok (.invokestatic 23, 3) := by decide +kernel
theorem d_De_member_6 : decode b_De_member 6 = .ok (.ifCond .eq 12, 3) := by decide +kernel
theorem d_De_member_9 : decode b_De_member 9 = .ok (.iload_n 2, 1) := by decide +kernel
theorem d_De_member_10 : decode b_De_member 10 = .ok (.bipush 8, 2) := by decide +kernel
theorem d_De_member_12 : decode b_De_member 12 = .ok (.invokestatic 23, 3) := by decide +kernel
theorem d_De_member_15 : decode b_De_member 15 = .ok (.ifCond .ne 5, 3) := by decide +kernel
theorem d_De_member_18 : decode b_De_member 18 = .ok (.iconst (-1), 1) := by decide +kernel
theorem d_De_member_19 : decode b_De_member 19 = .ok (.ireturn, 1) := by decide +kernel
theorem d_De_member_20 : decode b_De_member 20 = .ok (.aload_n 0, 1) := by decide +kernel
theorem d_De_member_21 : decode b_De_member 21 = .ok (.getfield 10, 3) := by decide +kernel
theorem d_De_member_24 : decode b_De_member 24 = .ok (.iload_n 1, 1) := by decide +kernel
theorem d_De_member_25 : decode b_De_member 25 = .ok (.iload_n 2, 1) := by decide +kernel
theorem d_De_member_26 : decode b_De_member 26 = .ok (.iload_n 3, 1) := by decide +kernel
theorem d_De_member_27 : decode b_De_member 27 = .ok (.invokevirtual 27, 3) := by decide +kernel
theorem d_De_member_30 : decode b_De_member 30 = .ok (.ifCond .eq 7, 3) := by decide +kernel
theorem d_De_member_33 : decode b_De_member 33 = .ok (.iconst 1, 1) := by decide +kernel
theorem d_De_member_34 : decode b_De_member 34 = .ok (.goto 4, 3) := by decide +kernel
theorem d_De_member_37 : decode b_De_member 37 = .ok (.iconst 0, 1) := by decide +kernel
theorem d_De_member_38 : decode b_De_member 38 = .ok (.ireturn, 1) := by decide +kernel
theorem d_De_condition_0 : decode b_De_condition 0 = .ok (.aload_n 0, 1) := by decide +kernel
theorem d_De_condition_1 : decode b_De_condition 1 = .ok (.getfield 10, 3) := by decide +kernel
theorem d_De_condition_4 : decode b_De_condition 4 = .ok (.iload_n 1, 1) := by decide +kernel
theorem d_De_condition_5 : decode b_De_condition 5 = .ok (.iload_n 2, 1) := by decide +kernel
theorem d_De_condition_6 : decode b_De_condition 6 = .ok (.iload_n 3, 1) := by decide +kernel
theorem d_De_condition_7 : decode b_De_condition 7 = .ok (.iload 4, 2) := by decide +kernel
theorem d_De_condition_9 : decode b_De_condition 9 = .ok (.invokevirtual 31, 3) := by decide +kernel
theorem d_De_condition_12 : decode b_De_condition 12 = .ok (.ifCond .ne 5, 3) := by decide +kernel
theorem d_De_condition_15 : decode b_De_condition 15 = .ok (.iconst (-1), 1) := by decide +kernel
theorem d_De_condition_16 : decode b_De_condition 16 = .ok (.ireturn, 1) := by decide +kernel
theorem d_De_condition_17 : decode b_De_condition 17 = .ok (.aload_n 0, 1) := by decide +kernel
theorem d_De_condition_18 : decode b_De_condition 18 = .ok (.getfield 10, 3) := by decide +kernel
theorem d_De_condition_21 : decode b_De_condition 21 = .ok (.iload_n 1, 1) := by decide +kernel
theorem d_De_condition_22 : decode b_De_condition 22 = .ok (.iload_n 2, 1) := by decide +kernel
theorem d_De_condition_23 : decode b_De_condition 23 = .ok (.iload_n 3, 1) := by decide +kernel
theorem d_De_condition_24 : decode b_De_condition 24 = .ok (.iload 4, 2) := by decide +kernel
theorem d_De_condition_26 : decode b_De_condition 26 = .ok (.invokevirtual 35, 3) := by decide +kernel
theorem d_De_condition_29 : decode b_De_condition 29 = .ok (.ireturn, 1) := by decide +kernel
theorem d_De_rule_0 : decode b_De_rule 0 = .ok (.aload_n 0, 1) := by decide +kernel
theorem d_De_rule_1 : decode b_De_rule 1 = .ok (.getfield 10, 3) := by decide +kernel
theorem d_De_rule_4 : decode b_De_rule 4 = .ok (.iload_n 3, 1) := by decide +kernel
theorem d_De_rule_5 : decode b_De_rule 5 = .ok (.invokevirtual 39, 3) := by decide +kernel
theorem d_De_rule_8 : decode b_De_rule 8 = .ok (.astore 4, 2) := by decide +kernel
theorem d_De_rule_10 : decode b_De_rule 10 = .ok (.aload 4, 2) := by decide +kernel
theorem d_De_rule_12 : decode b_De_rule 12 = .ok (.ifnull 12, 3) := by decide +kernel
theorem d_De_rule_15 : decode b_De_rule 15 = .ok (.iload_n 1, 1) := by decide +kernel
theorem d_De_rule_16 : decode b_De_rule 16 = .ok (.bipush 10, 2) := by decide +kernel
theorem d_De_rule_18 : decode b_De_rule 18 = .ok (.invokestatic 23, 3) := by decide +kernel
theorem d_De_rule_21 : decode b_De_rule 21 = .ok (.ifCond .ne 5, 3) := by decide +kernel
theorem d_De_rule_24 : decode b_De_rule 24 = .ok (.iconst (-1), 1) := by decide +kernel
theorem d_De_rule_25 : decode b_De_rule 25 = .ok (.ireturn, 1) := by decide +kernel
theorem d_De_rule_26 : decode b_De_rule 26 = .ok (.aload_n 0, 1) := by decide +kernel
theorem d_De_rule_27 : decode b_De_rule 27 = .ok (.getfield 19, 3) := by decide +kernel
theorem d_De_rule_30 : decode b_De_rule 30 = .ok (.iload_n 1, 1) := by decide +kernel
theorem d_De_rule_31 : decode b_De_rule 31 = .ok (.iload_n 2, 1) := by decide +kernel
theorem d_De_rule_32 : decode b_De_rule 32 = .ok (.aload 4, 2) := by decide +kernel
theorem d_De_rule_34 : decode b_De_rule 34 = .ok (.invokevirtual 43, 3) := by decide +kernel
theorem d_De_rule_37 : decode b_De_rule 37 = .ok (.ireturn, 1) := by decide +kernel
theorem d_De_drop_0 : decode b_De_drop 0 = .ok (.aload_n 0, 1) := by decide +kernel
theorem d_De_drop_1 : decode b_De_drop 1 = .ok (.getfield 19, 3) := by decide +kernel
theorem d_De_drop_4 : decode b_De_drop 4 = .ok (.iload_n 1, 1) := by decide +kernel
theorem d_De_drop_5 : decode b_De_drop 5 = .ok (.invokevirtual 46, 3) := by decide +kernel
theorem d_De_drop_8 : decode b_De_drop 8 = .ok (.istore_n 2, 1) := by decide +kernel
theorem d_De_drop_9 : decode b_De_drop 9 = .ok (.iload_n 2, 1) := by decide +kernel
theorem d_De_drop_10 : decode b_De_drop 10 = .ok (.iconst (-1), 1) := by decide +kernel
theorem d_De_drop_11 : decode b_De_drop 11 = .ok (.if_icmp .ne 5, 3) := by decide +kernel
theorem d_De_drop_14 : decode b_De_drop 14 = .ok (.iconst (-1), 1) := by decide +kernel
theorem d_De_drop_15 : decode b_De_drop 15 = .ok (.ireturn, 1) := by decide +kernel
theorem d_De_drop_16 : decode b_De_drop 16 = .ok (.aload_n 0, 1) := by decide +kernel
theorem d_De_drop_17 : decode b_De_drop 17 = .ok (.getfield 19, 3) := by decide +kernel
theorem d_De_drop_20 : decode b_De_drop 20 = .ok (.iload_n 2, 1) := by decide +kernel
theorem d_De_drop_21 : decode b_De_drop 21 = .ok (.iload_n 1, 1) := by decide +kernel
theorem d_De_drop_22 : decode b_De_drop 22 = .ok (.invokevirtual 50, 3) := by decide +kernel
theorem d_De_drop_25 : decode b_De_drop 25 = .ok (.ireturn, 1) := by decide +kernel
theorem d_De_may_0 : decode b_De_may 0 = .ok (.iload_n 1, 1) := by decide +kernel
theorem d_De_may_1 : decode b_De_may 1 = .ok (.bipush 8, 2) := by decide +kernel
theorem d_De_may_3 : decode b_De_may 3 = .ok (.invokestatic 23, 3) := by decide +kernel
theorem d_De_may_6 : decode b_De_may 6 = .ok (.ifCond .eq 48, 3) := by decide +kernel
theorem d_De_may_9 : decode b_De_may 9 = .ok (.iload_n 2, 1) := by decide +kernel
theorem d_De_may_10 : decode b_De_may 10 = .ok (.iconst 4, 1) := by decide +kernel
theorem d_De_may_11 : decode b_De_may 11 = .ok (.invokestatic 23, 3) := by decide +kernel
theorem d_De_may_14 : decode b_De_may 14 = .ok (.ifCond .eq 40, 3) := by decide +kernel
theorem d_De_may_17 : decode b_De_may 17 = .ok (.iload_n 3, 1) := by decide +kernel
theorem d_De_may_18 : decode b_De_may 18 = .ok (.bipush 6, 2) := by decide +kernel
theorem d_De_may_20 : decode b_De_may 20 = .ok (.invokestatic 23, 3) := by decide +kernel
theorem d_De_may_23 : decode b_De_may 23 = .ok (.ifCond .eq 31, 3) := by decide +kernel
theorem d_De_may_26 : decode b_De_may 26 = .ok (.iload 4, 2) := by decide +kernel
theorem d_De_may_28 : decode b_De_may 28 = .ok (.iconst 4, 1) := by decide +kernel
theorem d_De_may_29 : decode b_De_may 29 = .ok (.invokestatic 23, 3) := by decide +kernel
theorem d_De_may_32 : decode b_De_may 32 = .ok (.ifCond .eq 22, 3) := by decide +kernel
theorem d_De_may_35 : decode b_De_may 35 = .ok (.iload 5, 2) := by decide +kernel
theorem d_De_may_37 : decode b_De_may 37 = .ok (.bipush 8, 2) := by decide +kernel
theorem d_De_may_39 : decode b_De_may 39 = .ok (.invokestatic 23, 3) := by decide +kernel
theorem d_De_may_42 : decode b_De_may 42 = .ok (.ifCond .eq 12, 3) := by decide +kernel
theorem d_De_may_45 : decode b_De_may 45 = .ok (.iload 6, 2) := by decide +kernel
theorem d_De_may_47 : decode b_De_may 47 = .ok (.iconst 2, 1) := by decide +kernel
theorem d_De_may_48 : decode b_De_may 48 = .ok (.invokestatic 23, 3) := by decide +kernel
theorem d_De_may_51 : decode b_De_may 51 = .ok (.ifCond .ne 5, 3) := by decide +kernel
theorem d_De_may_54 : decode b_De_may 54 = .ok (.iconst (-1), 1) := by decide +kernel
theorem d_De_may_55 : decode b_De_may 55 = .ok (.ireturn, 1) := by decide +kernel
theorem d_De_may_56 : decode b_De_may 56 = .ok (.iload_n 1, 1) := by decide +kernel
theorem d_De_may_57 : decode b_De_may 57 = .ok (.iconst 4, 1) := by decide +kernel
theorem d_De_may_58 : decode b_De_may 58 = .ok (.imul, 1) := by decide +kernel
theorem d_De_may_59 : decode b_De_may 59 = .ok (.iload_n 2, 1) := by decide +kernel
theorem d_De_may_60 : decode b_De_may 60 = .ok (.iadd, 1) := by decide +kernel
theorem d_De_may_61 : decode b_De_may 61 = .ok (.bipush 6, 2) := by decide +kernel
theorem d_De_may_63 : decode b_De_may 63 = .ok (.imul, 1) := by decide +kernel
theorem d_De_may_64 : decode b_De_may 64 = .ok (.iload_n 3, 1) := by decide +kernel
theorem d_De_may_65 : decode b_De_may 65 = .ok (.iadd, 1) := by decide +kernel
theorem d_De_may_66 : decode b_De_may 66 = .ok (.iconst 4, 1) := by decide +kernel
theorem d_De_may_67 : decode b_De_may 67 = .ok (.imul, 1) := by decide +kernel
theorem d_De_may_68 : decode b_De_may 68 = .ok (.iload 4, 2) := by decide +kernel
theorem d_De_may_70 : decode b_De_may 70 = .ok (.iadd, 1) := by decide +kernel
theorem d_De_may_71 : decode b_De_may 71 = .ok (.bipush 8, 2) := by decide +kernel
theorem d_De_may_73 : decode b_De_may 73 = .ok (.imul, 1) := by decide +kernel
theorem d_De_may_74 : decode b_De_may 74 = .ok (.iload 5, 2) := by decide +kernel
theorem d_De_may_76 : decode b_De_may 76 = .ok (.iadd, 1) := by decide +kernel
theorem d_De_may_77 : decode b_De_may 77 = .ok (.istore 7, 2) := by decide +kernel
theorem d_De_may_79 : decode b_De_may 79 = .ok (.aload_n 0, 1) := by decide +kernel
theorem d_De_may_80 : decode b_De_may 80 = .ok (.getfield 19, 3) := by decide +kernel
theorem d_De_may_83 : decode b_De_may 83 = .ok (.iload 7, 2) := by decide +kernel
theorem d_De_may_85 : decode b_De_may 85 = .ok (.invokevirtual 54, 3) := by decide +kernel
theorem d_De_may_88 : decode b_De_may 88 = .ok (.astore 8, 2) := by decide +kernel
theorem d_De_may_90 : decode b_De_may 90 = .ok (.iload 6, 2) := by decide +kernel
theorem d_De_may_92 : decode b_De_may 92 = .ok (.iconst 1, 1) := by decide +kernel
theorem d_De_may_93 : decode b_De_may 93 = .ok (.if_icmp .ne 19, 3) := by decide +kernel
theorem d_De_may_96 : decode b_De_may 96 = .ok (.aload 8, 2) := by decide +kernel
theorem d_De_may_98 : decode b_De_may 98 = .ok (.ifnonnull 8, 3) := by decide +kernel
theorem d_De_may_101 : decode b_De_may 101 = .ok (.bipush (-2), 2) := by decide +kernel
theorem d_De_may_103 : decode b_De_may 103 = .ok (.goto 8, 3) := by decide +kernel
theorem d_De_may_106 : decode b_De_may 106 = .ok (.aload 8, 2) := by decide +kernel
theorem d_De_may_108 : decode b_De_may 108 = .ok (.getfield 58, 3) := by decide +kernel
theorem d_De_may_111 : decode b_De_may 111 = .ok (.ireturn, 1) := by decide +kernel
theorem d_De_may_112 : decode b_De_may 112 = .ok (.aload 8, 2) := by decide +kernel
theorem d_De_may_114 : decode b_De_may 114 = .ok (.ifnull 11, 3) := by decide +kernel
theorem d_De_may_117 : decode b_De_may 117 = .ok (.aload 8, 2) := by decide +kernel
theorem d_De_may_119 : decode b_De_may 119 = .ok (.getfield 64, 3) := by decide +kernel
theorem d_De_may_122 : decode b_De_may 122 = .ok (.ifCond .eq 7, 3) := by decide +kernel
theorem d_De_may_125 : decode b_De_may 125 = .ok (.iconst 0, 1) := by decide +kernel
theorem d_De_may_126 : decode b_De_may 126 = .ok (.goto 4, 3) := by decide +kernel
theorem d_De_may_129 : decode b_De_may 129 = .ok (.iconst 1, 1) := by decide +kernel
theorem d_De_may_130 : decode b_De_may 130 = .ok (.ireturn, 1) := by decide +kernel
theorem d_De_asks_0 : decode b_De_asks 0 = .ok (.aload_n 0, 1) := by decide +kernel
theorem d_De_asks_1 : decode b_De_asks 1 = .ok (.getfield 10, 3) := by decide +kernel
theorem d_De_asks_4 : decode b_De_asks 4 = .ok (.iload_n 1, 1) := by decide +kernel
theorem d_De_asks_5 : decode b_De_asks 5 = .ok (.invokevirtual 39, 3) := by decide +kernel
theorem d_De_asks_8 : decode b_De_asks 8 = .ok (.astore_n 2, 1) := by decide +kernel
theorem d_De_asks_9 : decode b_De_asks 9 = .ok (.aload_n 2, 1) := by decide +kernel
theorem d_De_asks_10 : decode b_De_asks 10 = .ok (.ifnonnull 5, 3) := by decide +kernel
theorem d_De_asks_13 : decode b_De_asks 13 = .ok (.iconst (-1), 1) := by decide +kernel
theorem d_De_asks_14 : decode b_De_asks 14 = .ok (.ireturn, 1) := by decide +kernel
theorem d_De_asks_15 : decode b_De_asks 15 = .ok (.iconst 0, 1) := by decide +kernel
theorem d_De_asks_16 : decode b_De_asks 16 = .ok (.istore_n 3, 1) := by decide +kernel
theorem d_De_asks_17 : decode b_De_asks 17 = .ok (.iconst 0, 1) := by decide +kernel
theorem d_De_asks_18 : decode b_De_asks 18 = .ok (.istore 4, 2) := by decide +kernel
theorem d_De_asks_20 : decode b_De_asks 20 = .ok (.iload 4, 2) := by decide +kernel
theorem d_De_asks_22 : decode b_De_asks 22 = .ok (.bipush 96, 2) := by decide +kernel
theorem d_De_asks_24 : decode b_De_asks 24 = .ok (.if_icmp .ge 21, 3) := by decide +kernel
theorem d_De_asks_27 : decode b_De_asks 27 = .ok (.iload_n 3, 1) := by decide +kernel
theorem d_De_asks_28 : decode b_De_asks 28 = .ok (.aload_n 2, 1) := by decide +kernel
theorem d_De_asks_29 : decode b_De_asks 29 = .ok (.iload 4, 2) := by decide +kernel
theorem d_De_asks_31 : decode b_De_asks 31 = .ok (.invokevirtual 68, 3) := by decide +kernel
theorem d_De_asks_34 : decode b_De_asks 34 = .ok (.invokestatic 74, 3) := by decide +kernel
theorem d_De_asks_37 : decode b_De_asks 37 = .ok (.iadd, 1) := by decide +kernel
theorem d_De_asks_38 : decode b_De_asks 38 = .ok (.istore_n 3, 1) := by decide +kernel
theorem d_De_asks_39 : decode b_De_asks 39 = .ok (.iinc 4 1, 3) := by decide +kernel
theorem d_De_asks_42 : decode b_De_asks 42 = .ok (.goto (-22), 3) := by decide +kernel
theorem d_De_asks_45 : decode b_De_asks 45 = .ok (.iload_n 3, 1) := by decide +kernel
theorem d_De_asks_46 : decode b_De_asks 46 = .ok (.ireturn, 1) := by decide +kernel
theorem d_De_ask_0 : decode b_De_ask 0 = .ok (.aload_n 0, 1) := by decide +kernel
theorem d_De_ask_1 : decode b_De_ask 1 = .ok (.getfield 10, 3) := by decide +kernel
theorem d_De_ask_4 : decode b_De_ask 4 = .ok (.iload_n 1, 1) := by decide +kernel
theorem d_De_ask_5 : decode b_De_ask 5 = .ok (.invokevirtual 39, 3) := by decide +kernel
theorem d_De_ask_8 : decode b_De_ask 8 = .ok (.astore_n 3, 1) := by decide +kernel
theorem d_De_ask_9 : decode b_De_ask 9 = .ok (.aload_n 3, 1) := by decide +kernel
theorem d_De_ask_10 : decode b_De_ask 10 = .ok (.ifnonnull 5, 3) := by decide +kernel
theorem d_De_ask_13 : decode b_De_ask 13 = .ok (.iconst (-1), 1) := by decide +kernel
theorem d_De_ask_14 : decode b_De_ask 14 = .ok (.ireturn, 1) := by decide +kernel
theorem d_De_ask_15 : decode b_De_ask 15 = .ok (.iload_n 2, 1) := by decide +kernel
theorem d_De_ask_16 : decode b_De_ask 16 = .ok (.ifCond .ge 6, 3) := by decide +kernel
theorem d_De_ask_19 : decode b_De_ask 19 = .ok (.bipush (-2), 2) := by decide +kernel
theorem d_De_ask_21 : decode b_De_ask 21 = .ok (.ireturn, 1) := by decide +kernel
theorem d_De_ask_22 : decode b_De_ask 22 = .ok (.iload_n 2, 1) := by decide +kernel
theorem d_De_ask_23 : decode b_De_ask 23 = .ok (.istore 4, 2) := by decide +kernel
theorem d_De_ask_25 : decode b_De_ask 25 = .ok (.iconst 0, 1) := by decide +kernel
theorem d_De_ask_26 : decode b_De_ask 26 = .ok (.istore 5, 2) := by decide +kernel
theorem d_De_ask_28 : decode b_De_ask 28 = .ok (.iload 5, 2) := by decide +kernel
theorem d_De_ask_30 : decode b_De_ask 30 = .ok (.bipush 96, 2) := by decide +kernel
theorem d_De_ask_32 : decode b_De_ask 32 = .ok (.if_icmp .ge 52, 3) := by decide +kernel
theorem d_De_ask_35 : decode b_De_ask 35 = .ok (.aload_n 3, 1) := by decide +kernel
theorem d_De_ask_36 : decode b_De_ask 36 = .ok (.iload 5, 2) := by decide +kernel
theorem d_De_ask_38 : decode b_De_ask 38 = .ok (.invokevirtual 68, 3) := by decide +kernel
theorem d_De_ask_41 : decode b_De_ask 41 = .ok (.invokestatic 74, 3) := by decide +kernel
theorem d_De_ask_44 : decode b_De_ask 44 = .ok (.istore 6, 2) := by decide +kernel
theorem d_De_ask_46 : decode b_De_ask 46 = .ok (.iload 4, 2) := by decide +kernel
theorem d_De_ask_48 : decode b_De_ask 48 = .ok (.iload 6, 2) := by decide +kernel
theorem d_De_ask_50 : decode b_De_ask 50 = .ok (.if_icmp .ge 21, 3) := by decide +kernel
theorem d_De_ask_53 : decode b_De_ask 53 = .ok (.iload 5, 2) := by decide +kernel
theorem d_De_ask_55 : decode b_De_ask 55 = .ok (.bipush 64, 2) := by decide +kernel
theorem d_De_ask_57 : decode b_De_ask 57 = .ok (.imul, 1) := by decide +kernel
theorem d_De_ask_58 : decode b_De_ask 58 = .ok (.aload_n 3, 1) := by decide +kernel
theorem d_De_ask_59 : decode b_De_ask 59 = .ok (.iload 5, 2) := by decide +kernel
theorem d_De_ask_61 : decode b_De_ask 61 = .ok (.invokevirtual 68, 3) := by decide +kernel
theorem d_De_ask_64 : decode b_De_ask 64 = .ok (.iload 4, 2) := by decide +kernel
theorem d_De_ask_66 : decode b_De_ask 66 = .ok (.invokestatic 80, 3) := by decide +kernel
theorem d_De_ask_69 : decode b_De_ask 69 = .ok (.iadd, 1) := by decide +kernel
theorem d_De_ask_70 : decode b_De_ask 70 = .ok (.ireturn, 1) := by decide +kernel
theorem d_De_ask_71 : decode b_De_ask 71 = .ok (.iload 4, 2) := by decide +kernel
theorem d_De_ask_73 : decode b_De_ask 73 = .ok (.iload 6, 2) := by decide +kernel
theorem d_De_ask_75 : decode b_De_ask 75 = .ok (.isub, 1) := by decide +kernel
theorem d_De_ask_76 : decode b_De_ask 76 = .ok (.istore 4, 2) := by decide +kernel
theorem d_De_ask_78 : decode b_De_ask 78 = .ok (.iinc 5 1, 3) := by decide +kernel
theorem d_De_ask_81 : decode b_De_ask 81 = .ok (.goto (-53), 3) := by decide +kernel
theorem d_De_ask_84 : decode b_De_ask 84 = .ok (.bipush (-2), 2) := by decide +kernel
theorem d_De_ask_86 : decode b_De_ask 86 = .ok (.ireturn, 1) := by decide +kernel
theorem d_De_within_0 : decode b_De_within 0 = .ok (.aload_n 0, 1) := by decide +kernel
theorem d_De_within_1 : decode b_De_within 1 = .ok (.getfield 10, 3) := by decide +kernel
theorem d_De_within_4 : decode b_De_within 4 = .ok (.iload_n 1, 1) := by decide +kernel
theorem d_De_within_5 : decode b_De_within 5 = .ok (.invokevirtual 39, 3) := by decide +kernel
theorem d_De_within_8 : decode b_De_within 8 = .ok (.astore_n 3, 1) := by decide +kernel
theorem d_De_within_9 : decode b_De_within 9 = .ok (.aload_n 0, 1) := by decide +kernel
theorem d_De_within_10 : decode b_De_within 10 = .ok (.getfield 10, 3) := by decide +kernel
theorem d_De_within_13 : decode b_De_within 13 = .ok (.iload_n 2, 1) := by decide +kernel
theorem d_De_within_14 : decode b_De_within 14 = .ok (.invokevirtual 39, 3) := by decide +kernel
theorem d_De_within_17 : decode b_De_within 17 = .ok (.astore 4, 2) := by decide +kernel
theorem d_De_within_19 : decode b_De_within 19 = .ok (.aload_n 3, 1) := by decide +kernel
theorem d_De_within_20 : decode b_De_within 20 = .ok (.ifnull 8, 3) := by decide +kernel
theorem d_De_within_23 : decode b_De_within 23 = .ok (.aload 4, 2) := by decide +kernel
theorem d_De_within_25 : decode b_De_within 25 = .ok (.ifnonnull 5, 3) := by decide +kernel
theorem d_De_within_28 : decode b_De_within 28 = .ok (.iconst (-1), 1) := by decide +kernel
theorem d_De_within_29 : decode b_De_within 29 = .ok (.ireturn, 1) := by decide +kernel
theorem d_De_within_30 : decode b_De_within 30 = .ok (.iconst 0, 1) := by decide +kernel
theorem d_De_within_31 : decode b_De_within 31 = .ok (.istore 5, 2) := by decide +kernel
theorem d_De_within_33 : decode b_De_within 33 = .ok (.iload 5, 2) := by decide +kernel
theorem d_De_within_35 : decode b_De_within 35 = .ok (.bipush 96, 2) := by decide +kernel
theorem d_De_within_37 : decode b_De_within 37 = .ok (.if_icmp .ge 34, 3) := by decide +kernel
theorem d_De_within_40 : decode b_De_within 40 = .ok (.aload_n 3, 1) := by decide +kernel
theorem d_De_within_41 : decode b_De_within 41 = .ok (.iload 5, 2) := by decide +kernel
theorem d_De_within_43 : decode b_De_within 43 = .ok (.invokevirtual 68, 3) := by decide +kernel
theorem d_De_within_46 : decode b_De_within 46 = .ok (.aload 4, 2) := by decide +kernel
theorem d_De_within_48 : decode b_De_within 48 = .ok (.iload 5, 2) := by decide +kernel
theorem d_De_within_50 : decode b_De_within 50 = .ok (.invokevirtual 68, 3) := by decide +kernel
theorem d_De_within_53 : decode b_De_within 53 = .ok (.ldc2_w 84, 3) := by decide +kernel
theorem d_De_within_56 : decode b_De_within 56 = .ok (.lxor, 1) := by decide +kernel
theorem d_De_within_57 : decode b_De_within 57 = .ok (.land, 1) := by decide +kernel
theorem d_De_within_58 : decode b_De_within 58 = .ok (.lconst 0, 1) := by decide +kernel
theorem d_De_within_59 : decode b_De_within 59 = .ok (.lcmp, 1) := by decide +kernel
theorem d_De_within_60 : decode b_De_within 60 = .ok (.ifCond .eq 5, 3) := by decide +kernel
theorem d_De_within_63 : decode b_De_within 63 = .ok (.iconst 0, 1) := by decide +kernel
theorem d_De_within_64 : decode b_De_within 64 = .ok (.ireturn, 1) := by decide +kernel
theorem d_De_within_65 : decode b_De_within 65 = .ok (.iinc 5 1, 3) := by decide +kernel
theorem d_De_within_68 : decode b_De_within 68 = .ok (.goto (-35), 3) := by decide +kernel
theorem d_De_within_71 : decode b_De_within 71 = .ok (.iconst 1, 1) := by decide +kernel
theorem d_De_within_72 : decode b_De_within 72 = .ok (.ireturn, 1) := by decide +kernel
theorem d_De_decides_0 : decode b_De_decides 0 = .ok (.aload_n 0, 1) := by decide +kernel
theorem d_De_decides_1 : decode b_De_decides 1 = .ok (.getfield 19, 3) := by decide +kernel
theorem d_De_decides_4 : decode b_De_decides 4 = .ok (.iload_n 1, 1) := by decide +kernel
theorem d_De_decides_5 : decode b_De_decides 5 = .ok (.invokevirtual 46, 3) := by decide +kernel
theorem d_De_decides_8 : decode b_De_decides 8 = .ok (.istore_n 2, 1) := by decide +kernel
theorem d_De_decides_9 : decode b_De_decides 9 = .ok (.iload_n 2, 1) := by decide +kernel
theorem d_De_decides_10 : decode b_De_decides 10 = .ok (.iconst (-1), 1) := by decide +kernel
theorem d_De_decides_11 : decode b_De_decides 11 = .ok (.if_icmp .ne 5, 3) := by decide +kernel
theorem d_De_decides_14 : decode b_De_decides 14 = .ok (.iconst (-1), 1) := by decide +kernel
theorem d_De_decides_15 : decode b_De_decides 15 = .ok (.ireturn, 1) := by decide +kernel
theorem d_De_decides_16 : decode b_De_decides 16 = .ok (.iconst 0, 1) := by decide +kernel
theorem d_De_decides_17 : decode b_De_decides 17 = .ok (.istore_n 3, 1) := by decide +kernel
theorem d_De_decides_18 : decode b_De_decides 18 = .ok (.iconst 0, 1) := by decide +kernel
theorem d_De_decides_19 : decode b_De_decides 19 = .ok (.istore 4, 2) := by decide +kernel
theorem d_De_decides_21 : decode b_De_decides 21 = .ok (.iload 4, 2) := by decide +kernel
theorem d_De_decides_23 : decode b_De_decides 23 = .ok (.bipush 96, 2) := by decide +kernel
theorem d_De_decides_25 : decode b_De_decides 25 = .ok (.if_icmp .ge 25, 3) := by decide +kernel
theorem d_De_decides_28 : decode b_De_decides 28 = .ok (.iload_n 3, 1) := by decide +kernel
theorem d_De_decides_29 : decode b_De_decides 29 = .ok (.aload_n 0, 1) := by decide +kernel
theorem d_De_decides_30 : decode b_De_decides 30 = .ok (.getfield 19, 3) := by decide +kernel
theorem d_De_decides_33 : decode b_De_decides 33 = .ok (.iload_n 2, 1) := by decide +kernel
theorem d_De_decides_34 : decode b_De_decides 34 = .ok (.iload 4, 2) := by decide +kernel
theorem d_De_decides_36 : decode b_De_decides 36 = .ok (.invokevirtual 86, 3) := by decide +kernel
theorem d_De_decides_39 : decode b_De_decides 39 = .ok (.invokestatic 74, 3) := by decide +kernel
theorem d_De_decides_42 : decode b_De_decides 42 = .ok (.iadd, 1) := by decide +kernel
theorem d_De_decides_43 : decode b_De_decides 43 = .ok (.istore_n 3, 1) := by decide +kernel
theorem d_De_decides_44 : decode b_De_decides 44 = .ok (.iinc 4 1, 3) := by decide +kernel
theorem d_De_decides_47 : decode b_De_decides 47 = .ok (.goto (-26), 3) := by decide +kernel
theorem d_De_decides_50 : decode b_De_decides 50 = .ok (.iload_n 3, 1) := by decide +kernel
theorem d_De_decides_51 : decode b_De_decides 51 = .ok (.ireturn, 1) := by decide +kernel
theorem d_De_sees_0 : decode b_De_sees 0 = .ok (.iload_n 1, 1) := by decide +kernel
theorem d_De_sees_1 : decode b_De_sees 1 = .ok (.bipush 8, 2) := by decide +kernel
theorem d_De_sees_3 : decode b_De_sees 3 = .ok (.invokestatic 23, 3) := by decide +kernel
theorem d_De_sees_6 : decode b_De_sees 6 = .ok (.ifCond .eq 12, 3) := by decide +kernel
theorem d_De_sees_9 : decode b_De_sees 9 = .ok (.iload_n 2, 1) := by decide +kernel
theorem d_De_sees_10 : decode b_De_sees 10 = .ok (.bipush 8, 2) := by decide +kernel
theorem d_De_sees_12 : decode b_De_sees 12 = .ok (.invokestatic 23, 3) := by decide +kernel
theorem d_De_sees_15 : decode b_De_sees 15 = .ok (.ifCond .ne 5, 3) := by decide +kernel
theorem d_De_sees_18 : decode b_De_sees 18 = .ok (.iconst (-1), 1) := by decide +kernel
theorem d_De_sees_19 : decode b_De_sees 19 = .ok (.ireturn, 1) := by decide +kernel
theorem d_De_sees_20 : decode b_De_sees 20 = .ok (.iload_n 2, 1) := by decide +kernel
theorem d_De_sees_21 : decode b_De_sees 21 = .ok (.iload_n 2, 1) := by decide +kernel
theorem d_De_sees_22 : decode b_De_sees 22 = .ok (.invokestatic 90, 3) := by decide +kernel
theorem d_De_sees_25 : decode b_De_sees 25 = .ok (.lstore_n 3, 1) := by decide +kernel
theorem d_De_sees_26 : decode b_De_sees 26 = .ok (.iconst 0, 1) := by decide +kernel
theorem d_De_sees_27 : decode b_De_sees 27 = .ok (.istore 5, 2) := by decide +kernel
theorem d_De_sees_29 : decode b_De_sees 29 = .ok (.iconst 0, 1) := by decide +kernel
theorem d_De_sees_30 : decode b_De_sees 30 = .ok (.istore 6, 2) := by decide +kernel
theorem d_De_sees_32 : decode b_De_sees 32 = .ok (.iload 6, 2) := by decide +kernel
theorem d_De_sees_34 : decode b_De_sees 34 = .ok (.bipush 12, 2) := by decide +kernel
theorem d_De_sees_36 : decode b_De_sees 36 = .ok (.if_icmp .ge 30, 3) := by decide +kernel
theorem d_De_sees_39 : decode b_De_sees 39 = .ok (.iload 5, 2) := by decide +kernel
theorem d_De_sees_41 : decode b_De_sees 41 = .ok (.lload_n 3, 1) := by decide +kernel
theorem d_De_sees_42 : decode b_De_sees 42 = .ok (.aload_n 0, 1) := by decide +kernel
theorem d_De_sees_43 : decode b_De_sees 43 = .ok (.iload_n 1, 1) := by decide +kernel
theorem d_De_sees_44 : decode b_De_sees 44 = .ok (.bipush 12, 2) := by decide +kernel
theorem d_De_sees_46 : decode b_De_sees 46 = .ok (.imul, 1) := by decide +kernel
theorem d_De_sees_47 : decode b_De_sees 47 = .ok (.iload 6, 2) := by decide +kernel
theorem d_De_sees_49 : decode b_De_sees 49 = .ok (.iadd, 1) := by decide +kernel
theorem d_De_sees_50 : decode b_De_sees 50 = .ok (.invokevirtual 93, 3) := by decide +kernel
theorem d_De_sees_53 : decode b_De_sees 53 = .ok (.land, 1) := by decide +kernel
theorem d_De_sees_54 : decode b_De_sees 54 = .ok (.invokestatic 74, 3) := by decide +kernel
theorem d_De_sees_57 : decode b_De_sees 57 = .ok (.iadd, 1) := by decide +kernel
theorem d_De_sees_58 : decode b_De_sees 58 = .ok (.istore 5, 2) := by decide +kernel
theorem d_De_sees_60 : decode b_De_sees 60 = .ok (.iinc 6 1, 3) := by decide +kernel
theorem d_De_sees_63 : decode b_De_sees 63 = .ok (.goto (-31), 3) := by decide +kernel
theorem d_De_sees_66 : decode b_De_sees 66 = .ok (.iload 5, 2) := by decide +kernel
theorem d_De_sees_68 : decode b_De_sees 68 = .ok (.ireturn, 1) := by decide +kernel
theorem d_De_matters_0 : decode b_De_matters 0 = .ok (.aload_n 0, 1) := by decide +kernel
theorem d_De_matters_1 : decode b_De_matters 1 = .ok (.getfield 19, 3) := by decide +kernel
theorem d_De_matters_4 : decode b_De_matters 4 = .ok (.iload_n 1, 1) := by decide +kernel
theorem d_De_matters_5 : decode b_De_matters 5 = .ok (.invokevirtual 46, 3) := by decide +kernel
theorem d_De_matters_8 : decode b_De_matters 8 = .ok (.istore_n 2, 1) := by decide +kernel
theorem d_De_matters_9 : decode b_De_matters 9 = .ok (.iload_n 2, 1) := by decide +kernel
theorem d_De_matters_10 : decode b_De_matters 10 = .ok (.iconst (-1), 1) := by decide +kernel
theorem d_De_matters_11 : decode b_De_matters 11 = .ok (.if_icmp .ne 5, 3) := by decide +kernel
theorem d_De_matters_14 : decode b_De_matters 14 = .ok (.iconst (-1), 1) := by decide +kernel
theorem d_De_matters_15 : decode b_De_matters 15 = .ok (.ireturn, 1) := by decide +kernel
theorem d_De_matters_16 : decode b_De_matters 16 = .ok (.iconst 0, 1) := by decide +kernel
theorem d_De_matters_17 : decode b_De_matters 17 = .ok (.istore_n 3, 1) := by decide +kernel
theorem d_De_matters_18 : decode b_De_matters 18 = .ok (.iconst 0, 1) := by decide +kernel
theorem d_De_matters_19 : decode b_De_matters 19 = .ok (.istore 4, 2) := by decide +kernel
theorem d_De_matters_21 : decode b_De_matters 21 = .ok (.iload 4, 2) := by decide +kernel
theorem d_De_matters_23 : decode b_De_matters 23 = .ok (.bipush 96, 2) := by decide +kernel
theorem d_De_matters_25 : decode b_De_matters 25 = .ok (.if_icmp .ge 25, 3) := by decide +kernel
theorem d_De_matters_28 : decode b_De_matters 28 = .ok (.iload_n 3, 1) := by decide +kernel
theorem d_De_matters_29 : decode b_De_matters 29 = .ok (.aload_n 0, 1) := by decide +kernel
theorem d_De_matters_30 : decode b_De_matters 30 = .ok (.getfield 19, 3) := by decide +kernel
theorem d_De_matters_33 : decode b_De_matters 33 = .ok (.iload_n 2, 1) := by decide +kernel
theorem d_De_matters_34 : decode b_De_matters 34 = .ok (.iload 4, 2) := by decide +kernel
theorem d_De_matters_36 : decode b_De_matters 36 = .ok (.invokevirtual 96, 3) := by decide +kernel
theorem d_De_matters_39 : decode b_De_matters 39 = .ok (.invokestatic 74, 3) := by decide +kernel
theorem d_De_matters_42 : decode b_De_matters 42 = .ok (.iadd, 1) := by decide +kernel
theorem d_De_matters_43 : decode b_De_matters 43 = .ok (.istore_n 3, 1) := by decide +kernel
theorem d_De_matters_44 : decode b_De_matters 44 = .ok (.iinc 4 1, 3) := by decide +kernel
theorem d_De_matters_47 : decode b_De_matters 47 = .ok (.goto (-26), 3) := by decide +kernel
theorem d_De_matters_50 : decode b_De_matters 50 = .ok (.iload_n 3, 1) := by decide +kernel
theorem d_De_matters_51 : decode b_De_matters 51 = .ok (.ireturn, 1) := by decide +kernel
theorem d_De_idle_0 : decode b_De_idle 0 = .ok (.aload_n 0, 1) := by decide +kernel
theorem d_De_idle_1 : decode b_De_idle 1 = .ok (.getfield 10, 3) := by decide +kernel
theorem d_De_idle_4 : decode b_De_idle 4 = .ok (.iload_n 2, 1) := by decide +kernel
theorem d_De_idle_5 : decode b_De_idle 5 = .ok (.invokevirtual 39, 3) := by decide +kernel
theorem d_De_idle_8 : decode b_De_idle 8 = .ok (.astore_n 3, 1) := by decide +kernel
theorem d_De_idle_9 : decode b_De_idle 9 = .ok (.aload_n 3, 1) := by decide +kernel
theorem d_De_idle_10 : decode b_De_idle 10 = .ok (.ifnonnull 5, 3) := by decide +kernel
theorem d_De_idle_13 : decode b_De_idle 13 = .ok (.iconst (-1), 1) := by decide +kernel
theorem d_De_idle_14 : decode b_De_idle 14 = .ok (.ireturn, 1) := by decide +kernel
theorem d_De_idle_15 : decode b_De_idle 15 = .ok (.iconst 0, 1) := by decide +kernel
theorem d_De_idle_16 : decode b_De_idle 16 = .ok (.istore 4, 2) := by decide +kernel
theorem d_De_idle_18 : decode b_De_idle 18 = .ok (.iconst 0, 1) := by decide +kernel
theorem d_De_idle_19 : decode b_De_idle 19 = .ok (.istore 5, 2) := by decide +kernel
theorem d_De_idle_21 : decode b_De_idle 21 = .ok (.iload 5, 2) := by decide +kernel
theorem d_De_idle_23 : decode b_De_idle 23 = .ok (.bipush 96, 2) := by decide +kernel
theorem d_De_idle_25 : decode b_De_idle 25 = .ok (.if_icmp .ge 32, 3) := by decide +kernel
theorem d_De_idle_28 : decode b_De_idle 28 = .ok (.iload 4, 2) := by decide +kernel
theorem d_De_idle_30 : decode b_De_idle 30 = .ok (.aload_n 0, 1) := by decide +kernel
theorem d_De_idle_31 : decode b_De_idle 31 = .ok (.getfield 19, 3) := by decide +kernel
theorem d_De_idle_34 : decode b_De_idle 34 = .ok (.iload_n 1, 1) := by decide +kernel
theorem d_De_idle_35 : decode b_De_idle 35 = .ok (.aload_n 3, 1) := by decide +kernel
theorem d_De_idle_36 : decode b_De_idle 36 = .ok (.iload 5, 2) := by decide +kernel
theorem d_De_idle_38 : decode b_De_idle 38 = .ok (.invokevirtual 68, 3) := by decide +kernel
theorem d_De_idle_41 : decode b_De_idle 41 = .ok (.iload 5, 2) := by decide +kernel
theorem d_De_idle_43 : decode b_De_idle 43 = .ok (.invokevirtual 99, 3) := by decide +kernel
theorem d_De_idle_46 : decode b_De_idle 46 = .ok (.invokestatic 103, 3) := by decide +kernel
theorem d_De_idle_49 : decode b_De_idle 49 = .ok (.istore 4, 2) := by decide +kernel
theorem d_De_idle_51 : decode b_De_idle 51 = .ok (.iinc 5 1, 3) := by decide +kernel
theorem d_De_idle_54 : decode b_De_idle 54 = .ok (.goto (-33), 3) := by decide +kernel
theorem d_De_idle_57 : decode b_De_idle 57 = .ok (.iload 4, 2) := by decide +kernel
theorem d_De_idle_59 : decode b_De_idle 59 = .ok (.ireturn, 1) := by decide +kernel
theorem d_De_apart_0 : decode b_De_apart 0 = .ok (.iload_n 1, 1) := by decide +kernel
theorem d_De_apart_1 : decode b_De_apart 1 = .ok (.bipush 8, 2) := by decide +kernel
theorem d_De_apart_3 : decode b_De_apart 3 = .ok (.invokestatic 23, 3) := by decide +kernel
theorem d_De_apart_6 : decode b_De_apart 6 = .ok (.ifCond .eq 12, 3) := by decide +kernel
theorem d_De_apart_9 : decode b_De_apart 9 = .ok (.iload_n 2, 1) := by decide +kernel
theorem d_De_apart_10 : decode b_De_apart 10 = .ok (.bipush 8, 2) := by decide +kernel
theorem d_De_apart_12 : decode b_De_apart 12 = .ok (.invokestatic 23, 3) := by decide +kernel
theorem d_De_apart_15 : decode b_De_apart 15 = .ok (.ifCond .ne 5, 3) := by decide +kernel
theorem d_De_apart_18 : decode b_De_apart 18 = .ok (.iconst (-1), 1) := by decide +kernel
theorem d_De_apart_19 : decode b_De_apart 19 = .ok (.ireturn, 1) := by decide +kernel
theorem d_De_apart_20 : decode b_De_apart 20 = .ok (.iconst 0, 1) := by decide +kernel
theorem d_De_apart_21 : decode b_De_apart 21 = .ok (.istore_n 3, 1) := by decide +kernel
theorem d_De_apart_22 : decode b_De_apart 22 = .ok (.iload_n 3, 1) := by decide +kernel
theorem d_De_apart_23 : decode b_De_apart 23 = .ok (.bipush 12, 2) := by decide +kernel
theorem d_De_apart_25 : decode b_De_apart 25 = .ok (.if_icmp .ge 56, 3) := by decide +kernel
theorem d_De_apart_28 : decode b_De_apart 28 = .ok (.iload_n 1, 1) := by decide +kernel
theorem d_De_apart_29 : decode b_De_apart 29 = .ok (.bipush 12, 2) := by decide +kernel
theorem d_De_apart_31 : decode b_De_apart 31 = .ok (.imul, 1) := by decide +kernel
theorem d_De_apart_32 : decode b_De_apart 32 = .ok (.iload_n 3, 1) := by decide +kernel
theorem d_De_apart_33 : decode b_De_apart 33 = .ok (.iadd, 1) := by decide +kernel
theorem d_De_apart_34 : decode b_De_apart 34 = .ok (.istore 4, 2) := by decide +kernel
theorem d_De_apart_36 : decode b_De_apart 36 = .ok (.aload_n 0, 1) := by decide +kernel
theorem d_De_apart_37 : decode b_De_apart 37 = .ok (.iload 4, 2) := by decide +kernel
theorem d_De_apart_39 : decode b_De_apart 39 = .ok (.invokevirtual 93, 3) := by decide +kernel
theorem d_De_apart_42 : decode b_De_apart 42 = .ok (.aload_n 0, 1) := by decide +kernel
theorem d_De_apart_43 : decode b_De_apart 43 = .ok (.iload_n 2, 1) := by decide +kernel
theorem d_De_apart_44 : decode b_De_apart 44 = .ok (.bipush 12, 2) := by decide +kernel
theorem d_De_apart_46 : decode b_De_apart 46 = .ok (.imul, 1) := by decide +kernel
theorem d_De_apart_47 : decode b_De_apart 47 = .ok (.iload_n 3, 1) := by decide +kernel
theorem d_De_apart_48 : decode b_De_apart 48 = .ok (.iadd, 1) := by decide +kernel
theorem d_De_apart_49 : decode b_De_apart 49 = .ok (.invokevirtual 93, 3) := by decide +kernel
theorem d_De_apart_52 : decode b_De_apart 52 = .ok (.lxor, 1) := by decide +kernel
theorem d_De_apart_53 : decode b_De_apart 53 = .ok (.lstore 5, 2) := by decide +kernel
theorem d_De_apart_55 : decode b_De_apart 55 = .ok (.lload 5, 2) := by decide +kernel
theorem d_De_apart_57 : decode b_De_apart 57 = .ok (.lconst 0, 1) := by decide +kernel
theorem d_De_apart_58 : decode b_De_apart 58 = .ok (.lcmp, 1) := by decide +kernel
theorem d_De_apart_59 : decode b_De_apart 59 = .ok (.ifCond .eq 16, 3) := by decide +kernel
theorem d_De_apart_62 : decode b_De_apart 62 = .ok (.iload 4, 2) := by decide +kernel
theorem d_De_apart_64 : decode b_De_apart 64 = .ok (.bipush 64, 2) := by decide +kernel
theorem d_De_apart_66 : decode b_De_apart 66 = .ok (.imul, 1) := by decide +kernel
theorem d_De_apart_67 : decode b_De_apart 67 = .ok (.lload 5, 2) := by decide +kernel
theorem d_De_apart_69 : decode b_De_apart 69 = .ok (.iconst 0, 1) := by decide +kernel
theorem d_De_apart_70 : decode b_De_apart 70 = .ok (.invokestatic 80, 3) := by decide +kernel
theorem d_De_apart_73 : decode b_De_apart 73 = .ok (.iadd, 1) := by decide +kernel
theorem d_De_apart_74 : decode b_De_apart 74 = .ok (.ireturn, 1) := by decide +kernel
theorem d_De_apart_75 : decode b_De_apart 75 = .ok (.iinc 3 1, 3) := by decide +kernel
theorem d_De_apart_78 : decode b_De_apart 78 = .ok (.goto (-56), 3) := by decide +kernel
theorem d_De_apart_81 : decode b_De_apart 81 = .ok (.bipush (-2), 2) := by decide +kernel
theorem d_De_apart_83 : decode b_De_apart 83 = .ok (.ireturn, 1) := by decide +kernel
theorem d_De_allowed_0 : decode b_De_allowed 0 = .ok (.iconst 0, 1) := by decide +kernel
theorem d_De_allowed_1 : decode b_De_allowed 1 = .ok (.istore_n 1, 1) := by decide +kernel
theorem d_De_allowed_2 : decode b_De_allowed 2 = .ok (.iconst 0, 1) := by decide +kernel
theorem d_De_allowed_3 : decode b_De_allowed 3 = .ok (.istore_n 2, 1) := by decide +kernel
theorem d_De_allowed_4 : decode b_De_allowed 4 = .ok (.iload_n 2, 1) := by decide +kernel
theorem d_De_allowed_5 : decode b_De_allowed 5 = .ok (.bipush 96, 2) := by decide +kernel
theorem d_De_allowed_7 : decode b_De_allowed 7 = .ok (.if_icmp .ge 20, 3) := by decide +kernel
theorem d_De_allowed_10 : decode b_De_allowed 10 = .ok (.iload_n 1, 1) := by decide +kernel
theorem d_De_allowed_11 : decode b_De_allowed 11 = .ok (.aload_n 0, 1) := by decide +kernel
theorem d_De_allowed_12 : decode b_De_allowed 12 = .ok (.iload_n 2, 1) := by decide +kernel
theorem d_De_allowed_13 : decode b_De_allowed 13 = .ok (.invokevirtual 93, 3) := by decide +kernel
theorem d_De_allowed_16 : decode b_De_allowed 16 = .ok (.invokestatic 74, 3) := by decide +kernel
theorem d_De_allowed_19 : decode b_De_allowed 19 = .ok (.iadd, 1) := by decide +kernel
theorem d_De_allowed_20 : decode b_De_allowed 20 = .ok (.istore_n 1, 1) := by decide +kernel
theorem d_De_allowed_21 : decode b_De_allowed 21 = .ok (.iinc 2 1, 3) := by decide +kernel
theorem d_De_allowed_24 : decode b_De_allowed 24 = .ok (.goto (-20), 3) := by decide +kernel
theorem d_De_allowed_27 : decode b_De_allowed 27 = .ok (.iload_n 1, 1) := by decide +kernel
theorem d_De_allowed_28 : decode b_De_allowed 28 = .ok (.ireturn, 1) := by decide +kernel
theorem d_De_conditions_0 : decode b_De_conditions 0 = .ok (.aload_n 0, 1) := by decide +kernel
theorem d_De_conditions_1 : decode b_De_conditions 1 = .ok (.getfield 10, 3) := by decide +kernel
theorem d_De_conditions_4 : decode b_De_conditions 4 = .ok (.getfield 108, 3) := by decide +kernel
theorem d_De_conditions_7 : decode b_De_conditions 7 = .ok (.ireturn, 1) := by decide +kernel
theorem d_De_rules_0 : decode b_De_rules 0 = .ok (.aload_n 0, 1) := by decide +kernel
theorem d_De_rules_1 : decode b_De_rules 1 = .ok (.getfield 19, 3) := by decide +kernel
theorem d_De_rules_4 : decode b_De_rules 4 = .ok (.getfield 111, 3) := by decide +kernel
theorem d_De_rules_7 : decode b_De_rules 7 = .ok (.ireturn, 1) := by decide +kernel
theorem d_De_allowedIn_0 : decode b_De_allowedIn 0 = .ok (.aload_n 0, 1) := by decide +kernel
theorem d_De_allowedIn_1 : decode b_De_allowedIn 1 = .ok (.getfield 19, 3) := by decide +kernel
theorem d_De_allowedIn_4 : decode b_De_allowedIn 4 = .ok (.iconst 0, 1) := by decide +kernel
theorem d_De_allowedIn_5 : decode b_De_allowedIn 5 = .ok (.ldc2_w 84, 3) := by decide +kernel
theorem d_De_allowedIn_8 : decode b_De_allowedIn 8 = .ok (.iload_n 1, 1) := by decide +kernel
theorem d_De_allowedIn_9 : decode b_De_allowedIn 9 = .ok (.invokevirtual 112, 3) := by decide +kernel
theorem d_De_allowedIn_12 : decode b_De_allowedIn 12 = .ok (.lreturn, 1) := by decide +kernel
theorem d_De_isBelow_0 : decode b_De_isBelow 0 = .ok (.iload_n 0, 1) := by decide +kernel
theorem d_De_isBelow_1 : decode b_De_isBelow 1 = .ok (.ifCond .lt 12, 3) := by decide +kernel
theorem d_De_isBelow_4 : decode b_De_isBelow 4 = .ok (.iload_n 0, 1) := by decide +kernel
theorem d_De_isBelow_5 : decode b_De_isBelow 5 = .ok (.iload_n 1, 1) := by decide +kernel
theorem d_De_isBelow_6 : decode b_De_isBelow 6 = .ok (.if_icmp .ge 7, 3) := by decide +kernel
theorem d_De_isBelow_9 : decode b_De_isBelow 9 = .ok (.iconst 1, 1) := by decide +kernel
theorem d_De_isBelow_10 : decode b_De_isBelow 10 = .ok (.goto 4, 3) := by decide +kernel
theorem d_De_isBelow_13 : decode b_De_isBelow 13 = .ok (.iconst 0, 1) := by decide +kernel
theorem d_De_isBelow_14 : decode b_De_isBelow 14 = .ok (.ireturn, 1) := by decide +kernel
theorem d_De_versionsFromTo_0 : decode b_De_versionsFromTo 0 = .ok (.lconst 0, 1) := by decide +kernel
theorem d_De_versionsFromTo_1 : decode b_De_versionsFromTo 1 = .ok (.lstore_n 2, 1) := by decide +kernel
theorem d_De_versionsFromTo_2 : decode b_De_versionsFromTo 2 = .ok (.iconst 0, 1) := by decide +kernel
theorem d_De_versionsFromTo_3 : decode b_De_versionsFromTo 3 = .ok (.istore 4, 2) := by decide +kernel
theorem d_De_versionsFromTo_5 : decode b_De_versionsFromTo 5 = .ok (.iload 4, 2) := by decide +kernel
theorem d_De_versionsFromTo_7 : decode b_De_versionsFromTo 7 = .ok (.bipush 8, 2) := by decide +kernel
theorem d_De_versionsFromTo_9 : decode b_De_versionsFromTo 9 = .ok (.if_icmp .ge 30, 3) := by decide +kernel
theorem d_De_versionsFromTo_12 : decode b_De_versionsFromTo 12 = .ok (.iload 4, 2) := by decide +kernel
theorem d_De_versionsFromTo_14 : decode b_De_versionsFromTo 14 = .ok (.iload_n 0, 1) := by decide +kernel
theorem d_De_versionsFromTo_15 : decode b_De_versionsFromTo 15 = .ok (.if_icmp .lt 18, 3) := by decide +kernel
theorem d_De_versionsFromTo_18 : decode b_De_versionsFromTo 18 = .ok (.iload 4, 2) := by decide +kernel
theorem d_De_versionsFromTo_20 : decode b_De_versionsFromTo 20 = .ok (.iload_n 1, 1) := by decide +kernel
theorem d_De_versionsFromTo_21 : decode b_De_versionsFromTo 21 = .ok (.if_icmp .gt 12, 3) := by decide +kernel
theorem d_De_versionsFromTo_24 : decode b_De_versionsFromTo 24 = .ok (.lload_n 2, 1) := by decide +kernel
theorem d_De_versionsFromTo_25 : decode b_De_versionsFromTo 25 = .ok (.ldc2_w 116, 3) := by decide +kernel
theorem d_De_versionsFromTo_28 : decode b_De_versionsFromTo 28 = .ok (.iload 4, 2) := by decide +kernel
theorem d_De_versionsFromTo_30 : decode b_De_versionsFromTo 30 = .ok (.lshl, 1) := by decide +kernel
theorem d_De_versionsFromTo_31 : decode b_De_versionsFromTo 31 = .ok (.lor, 1) := by decide +kernel
theorem d_De_versionsFromTo_32 : decode b_De_versionsFromTo 32 = .ok (.lstore_n 2, 1) := by decide +kernel
theorem d_De_versionsFromTo_33 : decode b_De_versionsFromTo 33 = .ok (.iinc 4 1, 3) := by decide +kernel
theorem d_De_versionsFromTo_36 : decode b_De_versionsFromTo 36 = .ok (.goto (-31), 3) := by decide +kernel
theorem d_De_versionsFromTo_39 : decode b_De_versionsFromTo 39 = .ok (.lload_n 2, 1) := by decide +kernel
theorem d_De_versionsFromTo_40 : decode b_De_versionsFromTo 40 = .ok (.lreturn, 1) := by decide +kernel
theorem d_De_bitPlace_0 : decode b_De_bitPlace 0 = .ok (.lload_n 0, 1) := by decide +kernel
theorem d_De_bitPlace_1 : decode b_De_bitPlace 1 = .ok (.lstore_n 3, 1) := by decide +kernel
theorem d_De_bitPlace_2 : decode b_De_bitPlace 2 = .ok (.iconst 0, 1) := by decide +kernel
theorem d_De_bitPlace_3 : decode b_De_bitPlace 3 = .ok (.istore 5, 2) := by decide +kernel
theorem d_De_bitPlace_5 : decode b_De_bitPlace 5 = .ok (.iload 5, 2) := by decide +kernel
theorem d_De_bitPlace_7 : decode b_De_bitPlace 7 = .ok (.iload_n 2, 1) := by decide +kernel
theorem d_De_bitPlace_8 : decode b_De_bitPlace 8 = .ok (.if_icmp .ge 15, 3) := by decide +kernel
theorem d_De_bitPlace_11 : decode b_De_bitPlace 11 = .ok (.lload_n 3, 1) := by decide +kernel
theorem d_De_bitPlace_12 : decode b_De_bitPlace 12 = .ok (.lload_n 3, 1) := by decide +kernel
theorem d_De_bitPlace_13 : decode b_De_bitPlace 13 = .ok (.lconst 1, 1) := by decide +kernel
theorem d_De_bitPlace_14 : decode b_De_bitPlace 14 = .ok (.lsub, 1) := by decide +kernel
theorem d_De_bitPlace_15 : decode b_De_bitPlace 15 = .ok (.land, 1) := by decide +kernel
theorem d_De_bitPlace_16 : decode b_De_bitPlace 16 = .ok (.lstore_n 3, 1) := by decide +kernel
theorem d_De_bitPlace_17 : decode b_De_bitPlace 17 = .ok (.iinc 5 1, 3) := by decide +kernel
theorem d_De_bitPlace_20 : decode b_De_bitPlace 20 = .ok (.goto (-15), 3) := by decide +kernel
theorem d_De_bitPlace_23 : decode b_De_bitPlace 23 = .ok (.lload_n 3, 1) := by decide +kernel
theorem d_De_bitPlace_24 : decode b_De_bitPlace 24 = .ok (.lload_n 3, 1) := by decide +kernel
theorem d_De_bitPlace_25 : decode b_De_bitPlace 25 = .ok (.lneg, 1) := by decide +kernel
theorem d_De_bitPlace_26 : decode b_De_bitPlace 26 = .ok (.land, 1) := by decide +kernel
theorem d_De_bitPlace_27 : decode b_De_bitPlace 27 = .ok (.lstore 5, 2) := by decide +kernel
theorem d_De_bitPlace_29 : decode b_De_bitPlace 29 = .ok (.lload 5, 2) := by decide +kernel
theorem d_De_bitPlace_31 : decode b_De_bitPlace 31 = .ok (.lconst 1, 1) := by decide +kernel
theorem d_De_bitPlace_32 : decode b_De_bitPlace 32 = .ok (.lsub, 1) := by decide +kernel
theorem d_De_bitPlace_33 : decode b_De_bitPlace 33 = .ok (.invokestatic 74, 3) := by decide +kernel
theorem d_De_bitPlace_36 : decode b_De_bitPlace 36 = .ok (.ireturn, 1) := by decide +kernel
theorem d_Rb_init_0 : decode b_Rb_init 0 = .ok (.aload_n 0, 1) := by decide +kernel
theorem d_Rb_init_1 : decode b_Rb_init 1 = .ok (.invokespecial 3, 3) := by decide +kernel
theorem d_Rb_init_4 : decode b_Rb_init 4 = .ok (.aload_n 0, 1) := by decide +kernel
theorem d_Rb_init_5 : decode b_Rb_init 5 = .ok (.bipush 20, 2) := by decide +kernel
theorem d_Rb_init_7 : decode b_Rb_init 7 = .ok (.anewarray 9, 3) := by decide +kernel
theorem d_Rb_init_10 : decode b_Rb_init 10 = .ok (.putfield 11, 3) := by decide +kernel
theorem d_Rb_init_13 : decode b_Rb_init 13 = .ok (.aload_n 0, 1) := by decide +kernel
theorem d_Rb_init_14 : decode b_Rb_init 14 = .ok (.iconst 0, 1) := by decide +kernel
theorem d_Rb_init_15 : decode b_Rb_init 15 = .ok (.putfield 17, 3) := by decide +kernel
theorem d_Rb_init_18 : decode b_Rb_init 18 = .ok (.return_, 1) := by decide +kernel
theorem d_Rb_at_0 : decode b_Rb_at 0 = .ok (.iload_n 1, 1) := by decide +kernel
theorem d_Rb_at_1 : decode b_Rb_at 1 = .ok (.aload_n 0, 1) := by decide +kernel
theorem d_Rb_at_2 : decode b_Rb_at 2 = .ok (.getfield 11, 3) := by decide +kernel
theorem d_Rb_at_5 : decode b_Rb_at 5 = .ok (.arraylength, 1) := by decide +kernel
theorem d_Rb_at_6 : decode b_Rb_at 6 = .ok (.invokestatic 21, 3) := by decide +kernel
theorem d_Rb_at_9 : decode b_Rb_at 9 = .ok (.ifCond .eq 12, 3) := by decide +kernel
theorem d_Rb_at_12 : decode b_Rb_at 12 = .ok (.aload_n 0, 1) := by decide +kernel
theorem d_Rb_at_13 : decode b_Rb_at 13 = .ok (.getfield 11, 3) := by decide +kernel
theorem d_Rb_at_16 : decode b_Rb_at 16 = .ok (.iload_n 1, 1) := by decide +kernel
theorem d_Rb_at_17 : decode b_Rb_at 17 = .ok (.aaload, 1) := by decide +kernel
theorem d_Rb_at_18 : decode b_Rb_at 18 = .ok (.goto 4, 3) := by decide +kernel
theorem d_Rb_at_21 : decode b_Rb_at 21 = .ok (.aconst_null, 1) := by decide +kernel
theorem d_Rb_at_22 : decode b_Rb_at 22 = .ok (.areturn, 1) := by decide +kernel
theorem d_Rb_placeOf_0 : decode b_Rb_placeOf 0 = .ok (.iconst 0, 1) := by decide +kernel
theorem d_Rb_placeOf_1 : decode b_Rb_placeOf 1 = .ok (.istore_n 2, 1) := by decide +kernel
theorem d_Rb_placeOf_2 : decode b_Rb_placeOf 2 = .ok (.iload_n 2, 1) := by decide +kernel
theorem d_Rb_placeOf_3 : decode b_Rb_placeOf 3 = .ok (.aload_n 0, 1) := by decide +kernel
theorem d_Rb_placeOf_4 : decode b_Rb_placeOf 4 = .ok (.getfield 11, 3) := by decide +kernel
theorem d_Rb_placeOf_7 : decode b_Rb_placeOf 7 = .ok (.arraylength, 1) := by decide +kernel
theorem d_Rb_placeOf_8 : decode b_Rb_placeOf 8 = .ok (.if_icmp .ge 29, 3) := by decide +kernel
theorem d_Rb_placeOf_11 : decode b_Rb_placeOf 11 = .ok (.aload_n 0, 1) := by decide +kernel
theorem d_Rb_placeOf_12 : decode b_Rb_placeOf 12 = .ok (.iload_n 2, 1) := by decide +kernel
theorem d_Rb_placeOf_13 : decode b_Rb_placeOf 13 = .ok (.invokevirtual 25, 3) := by decide +kernel
theorem d_Rb_placeOf_16 : decode b_Rb_placeOf 16 = .ok (.astore_n 3, 1) := by decide +kernel
theorem d_Rb_placeOf_17 : decode b_Rb_placeOf 17 = .ok (.aload_n 3, 1) := by decide +kernel
theorem d_Rb_placeOf_18 : decode b_Rb_placeOf 18 = .ok (.ifnull 13, 3) := by decide +kernel
theorem d_Rb_placeOf_21 : decode b_Rb_placeOf 21 = .ok (.aload_n 3, 1) := by decide +kernel
theorem d_Rb_placeOf_22 : decode b_Rb_placeOf 22 = .ok (.getfield 29, 3) := by decide +kernel
theorem d_Rb_placeOf_25 : decode b_Rb_placeOf 25 = .ok (.iload_n 1, 1) := by decide +kernel
theorem d_Rb_placeOf_26 : decode b_Rb_placeOf 26 = .ok (.if_icmp .ne 5, 3) := by decide +kernel
theorem d_Rb_placeOf_29 : decode b_Rb_placeOf 29 = .ok (.iload_n 2, 1) := by decide +kernel
theorem d_Rb_placeOf_30 : decode b_Rb_placeOf 30 = .ok (.ireturn, 1) := by decide +kernel
theorem d_Rb_placeOf_31 : decode b_Rb_placeOf 31 = .ok (.iinc 2 1, 3) := by decide +kernel
theorem d_Rb_placeOf_34 : decode b_Rb_placeOf 34 = .ok (.goto (-32), 3) := by decide +kernel
theorem d_Rb_placeOf_37 : decode b_Rb_placeOf 37 = .ok (.iconst (-1), 1) := by decide +kernel
theorem d_Rb_placeOf_38 : decode b_Rb_placeOf 38 = .ok (.ireturn, 1) := by decide +kernel
theorem d_Rb_add_0 : decode b_Rb_add 0 = .ok (.aload_n 0, 1) := by decide +kernel
theorem d_Rb_add_1 : decode b_Rb_add 1 = .ok (.getfield 17, 3) := by decide +kernel
theorem d_Rb_add_4 : decode b_Rb_add 4 = .ok (.aload_n 0, 1) := by decide +kernel
theorem d_Rb_add_5 : decode b_Rb_add 5 = .ok (.getfield 11, 3) := by decide +kernel
theorem d_Rb_add_8 : decode b_Rb_add 8 = .ok (.arraylength, 1) := by decide +kernel
theorem d_Rb_add_9 : decode b_Rb_add 9 = .ok (.invokestatic 21, 3) := by decide +kernel
theorem d_Rb_add_12 : decode b_Rb_add 12 = .ok (.ifCond .ne 6, 3) := by decide +kernel
theorem d_Rb_add_15 : decode b_Rb_add 15 = .ok (.bipush (-3), 2) := by decide +kernel
theorem d_Rb_add_17 : decode b_Rb_add 17 = .ok (.ireturn, 1) := by decide +kernel
theorem d_Rb_add_18 : decode b_Rb_add 18 = .ok (.new 9, 3) := by decide +kernel
theorem d_Rb_add_21 : decode b_Rb_add 21 = .ok (.dup, 1) := by decide +kernel
theorem d_Rb_add_22 : decode b_Rb_add 22 = .ok (.aload_n 0, 1) := by decide +kernel
theorem d_Rb_add_23 : decode b_Rb_add 23 = .ok (.getfield 17, 3) := by decide +kernel
theorem d_Rb_add_26 : decode b_Rb_add 26 = .ok (.iload_n 1, 1) := by decide +kernel
theorem d_Rb_add_27 : decode b_Rb_add 27 = .ok (.iload_n 2, 1) := by decide +kernel
theorem d_Rb_add_28 : decode b_Rb_add 28 = .ok (.aload_n 3, 1) := by decide +kernel
theorem d_Rb_add_29 : decode b_Rb_add 29 = .ok (.invokespecial 32, 3) := by decide +kernel
theorem d_Rb_add_32 : decode b_Rb_add 32 = .ok (.astore 4, 2) := by decide +kernel
theorem d_Rb_add_34 : decode b_Rb_add 34 = .ok (.aload_n 0, 1) := by decide +kernel
theorem d_Rb_add_35 : decode b_Rb_add 35 = .ok (.aload 4, 2) := by decide +kernel
theorem d_Rb_add_37 : decode b_Rb_add 37 = .ok (.invokevirtual 35, 3) := by decide +kernel
theorem d_Rb_add_40 : decode b_Rb_add 40 = .ok (.istore 5, 2) := by decide +kernel
theorem d_Rb_add_42 : decode b_Rb_add 42 = .ok (.aload_n 0, 1) := by decide +kernel
theorem d_Rb_add_43 : decode b_Rb_add 43 = .ok (.getfield 11, 3) := by decide +kernel
theorem d_Rb_add_46 : decode b_Rb_add 46 = .ok (.arraylength, 1) := by decide +kernel
theorem d_Rb_add_47 : decode b_Rb_add 47 = .ok (.iconst 1, 1) := by decide +kernel
theorem d_Rb_add_48 : decode b_Rb_add 48 = .ok (.isub, 1) := by decide +kernel
theorem d_Rb_add_49 : decode b_Rb_add 49 = .ok (.istore 6, 2) := by decide +kernel
theorem d_Rb_add_51 : decode b_Rb_add 51 = .ok (.iload 6, 2) := by decide +kernel
theorem d_Rb_add_53 : decode b_Rb_add 53 = .ok (.iload 5, 2) := by decide +kernel
theorem d_Rb_add_55 : decode b_Rb_add 55 = .ok (.if_icmp .le 25, 3) := by decide +kernel
theorem d_Rb_add_58 : decode b_Rb_add 58 = .ok (.aload_n 0, 1) := by decide +kernel
theorem d_Rb_add_59 : decode b_Rb_add 59 = .ok (.getfield 11, 3) := by decide +kernel
theorem d_Rb_add_62 : decode b_Rb_add 62 = .ok (.iload 6, 2) := by decide +kernel
theorem d_Rb_add_64 : decode b_Rb_add 64 = .ok (.aload_n 0, 1) := by decide +kernel
theorem d_Rb_add_65 : decode b_Rb_add 65 = .ok (.getfield 11, 3) := by decide +kernel
theorem d_Rb_add_68 : decode b_Rb_add 68 = .ok (.iload 6, 2) := by decide +kernel
theorem d_Rb_add_70 : decode b_Rb_add 70 = .ok (.iconst 1, 1) := by decide +kernel
theorem d_Rb_add_71 : decode b_Rb_add 71 = .ok (.isub, 1) := by decide +kernel
theorem d_Rb_add_72 : decode b_Rb_add 72 = .ok (.aaload, 1) := by decide +kernel
theorem d_Rb_add_73 : decode b_Rb_add 73 = .ok (.aastore, 1) := by decide +kernel
theorem d_Rb_add_74 : decode b_Rb_add 74 = .ok (.iinc 6 (-1), 3) := by decide +kernel
theorem d_Rb_add_77 : decode b_Rb_add 77 = .ok (.goto (-26), 3) := by decide +kernel
theorem d_Rb_add_80 : decode b_Rb_add 80 = .ok (.iload 5, 2) := by decide +kernel
theorem d_Rb_add_82 : decode b_Rb_add 82 = .ok (.aload_n 0, 1) := by decide +kernel
theorem d_Rb_add_83 : decode b_Rb_add 83 = .ok (.getfield 11, 3) := by decide +kernel
theorem d_Rb_add_86 : decode b_Rb_add 86 = .ok (.arraylength, 1) := by decide +kernel
theorem d_Rb_add_87 : decode b_Rb_add 87 = .ok (.invokestatic 21, 3) := by decide +kernel
theorem d_Rb_add_90 : decode b_Rb_add 90 = .ok (.ifCond .eq 12, 3) := by decide +kernel
theorem d_Rb_add_93 : decode b_Rb_add 93 = .ok (.aload_n 0, 1) := by decide +kernel
theorem d_Rb_add_94 : decode b_Rb_add 94 = .ok (.getfield 11, 3) := by decide +kernel
theorem d_Rb_add_97 : decode b_Rb_add 97 = .ok (.iload 5, 2) := by decide +kernel
theorem d_Rb_add_99 : decode b_Rb_add 99 = .ok (.aload 4, 2) := by decide +kernel
theorem d_Rb_add_101 : decode b_Rb_add 101 = .ok (.aastore, 1) := by decide +kernel
theorem d_Rb_add_102 : decode b_Rb_add 102 = .ok (.aload_n 0, 1) := by decide +kernel
theorem d_Rb_add_103 : decode b_Rb_add 103 = .ok (.dup, 1) := by decide +kernel
theorem d_Rb_add_104 : decode b_Rb_add 104 = .ok (.getfield 17, 3) := by decide +kernel
theorem d_Rb_add_107 : decode b_Rb_add 107 = .ok (.iconst 1, 1) := by decide +kernel
theorem d_Rb_add_108 : decode b_Rb_add 108 = .ok (.iadd, 1) := by decide +kernel
theorem d_Rb_add_109 : decode b_Rb_add 109 = .ok (.putfield 17, 3) := by decide +kernel
theorem d_Rb_add_112 : decode b_Rb_add 112 = .ok (.aload 4, 2) := by decide +kernel
theorem d_Rb_add_114 : decode b_Rb_add 114 = .ok (.getfield 29, 3) := by decide +kernel
theorem d_Rb_add_117 : decode b_Rb_add 117 = .ok (.ireturn, 1) := by decide +kernel
theorem d_Rb_placeFor_0 : decode b_Rb_placeFor 0 = .ok (.iconst 0, 1) := by decide +kernel
theorem d_Rb_placeFor_1 : decode b_Rb_placeFor 1 = .ok (.istore_n 2, 1) := by decide +kernel
theorem d_Rb_placeFor_2 : decode b_Rb_placeFor 2 = .ok (.iload_n 2, 1) := by decide +kernel
theorem d_Rb_placeFor_3 : decode b_Rb_placeFor 3 = .ok (.aload_n 0, 1) := by decide +kernel
theorem d_Rb_placeFor_4 : decode b_Rb_placeFor 4 = .ok (.getfield 11, 3) := by decide +kernel
theorem d_Rb_placeFor_7 : decode b_Rb_placeFor 7 = .ok (.arraylength, 1) := by decide +kernel
theorem d_Rb_placeFor_8 : decode b_Rb_placeFor 8 = .ok (.if_icmp .ge 29, 3) := by decide +kernel
theorem d_Rb_placeFor_11 : decode b_Rb_placeFor 11 = .ok (.aload_n 0, 1) := by decide +kernel
theorem d_Rb_placeFor_12 : decode b_Rb_placeFor 12 = .ok (.iload_n 2, 1) := by decide +kernel
theorem d_Rb_placeFor_13 : decode b_Rb_placeFor 13 = .ok (.invokevirtual 25, 3) := by decide +kernel
theorem d_Rb_placeFor_16 : decode b_Rb_placeFor 16 = .ok (.astore_n 3, 1) := by decide +kernel
theorem d_Rb_placeFor_17 : decode b_Rb_placeFor 17 = .ok (.aload_n 3, 1) := by decide +kernel
theorem d_Rb_placeFor_18 : decode b_Rb_placeFor 18 = .ok (.ifnull 11, 3) := by decide +kernel
theorem d_Rb_placeFor_21 : decode b_Rb_placeFor 21 = .ok (.aload_n 1, 1) := by decide +kernel
theorem d_Rb_placeFor_22 : decode b_Rb_placeFor 22 = .ok (.aload_n 3, 1) := by decide +kernel
theorem d_Rb_placeFor_23 : decode b_Rb_placeFor 23 = .ok (.invokevirtual 39, 3) := by decide +kernel
theorem d_Rb_placeFor_26 : decode b_Rb_placeFor 26 = .ok (.ifCond .eq 5, 3) := by decide +kernel
theorem d_Rb_placeFor_29 : decode b_Rb_placeFor 29 = .ok (.iload_n 2, 1) := by decide +kernel
theorem d_Rb_placeFor_30 : decode b_Rb_placeFor 30 = .ok (.ireturn, 1) := by decide +kernel
theorem d_Rb_placeFor_31 : decode b_Rb_placeFor 31 = .ok (.iinc 2 1, 3) := by decide +kernel
theorem d_Rb_placeFor_34 : decode b_Rb_placeFor 34 = .ok (.goto (-32), 3) := by decide +kernel
theorem d_Rb_placeFor_37 : decode b_Rb_placeFor 37 = .ok (.aload_n 0, 1) := by decide +kernel
theorem d_Rb_placeFor_38 : decode b_Rb_placeFor 38 = .ok (.getfield 11, 3) := by decide +kernel
theorem d_Rb_placeFor_41 : decode b_Rb_placeFor 41 = .ok (.arraylength, 1) := by decide +kernel
theorem d_Rb_placeFor_42 : decode b_Rb_placeFor 42 = .ok (.ireturn, 1) := by decide +kernel
theorem d_Rb_remove_0 : decode b_Rb_remove 0 = .ok (.iload_n 1, 1) := by decide +kernel
theorem d_Rb_remove_1 : decode b_Rb_remove 1 = .ok (.aload_n 0, 1) := by decide +kernel
theorem d_Rb_remove_2 : decode b_Rb_remove 2 = .ok (.getfield 11, 3) := by decide +kernel
theorem d_Rb_remove_5 : decode b_Rb_remove 5 = .ok (.arraylength, 1) := by decide +kernel
theorem d_Rb_remove_6 : decode b_Rb_remove 6 = .ok (.invokestatic 21, 3) := by decide +kernel
theorem d_Rb_remove_9 : decode b_Rb_remove 9 = .ok (.ifCond .eq 59, 3) := by decide +kernel
theorem d_Rb_remove_12 : decode b_Rb_remove 12 = .ok (.iload_n 1, 1) := by decide +kernel
theorem d_Rb_remove_13 : decode b_Rb_remove 13 = .ok (.istore_n 3, 1) := by decide +kernel
theorem d_Rb_remove_14 : decode b_Rb_remove 14 = .ok (.iload_n 3, 1) := by decide +kernel
theorem d_Rb_remove_15 : decode b_Rb_remove 15 = .ok (.aload_n 0, 1) := by decide +kernel
theorem d_Rb_remove_16 : decode b_Rb_remove 16 = .ok (.getfield 11, 3) := by decide +kernel
theorem d_Rb_remove_19 : decode b_Rb_remove 19 = .ok (.arraylength, 1) := by decide +kernel
theorem d_Rb_remove_20 : decode b_Rb_remove 20 = .ok (.iconst 1, 1) := by decide +kernel
theorem d_Rb_remove_21 : decode b_Rb_remove 21 = .ok (.isub, 1) := by decide +kernel
theorem d_Rb_remove_22 : decode b_Rb_remove 22 = .ok (.if_icmp .ge 23, 3) := by decide +kernel
theorem d_Rb_remove_25 : decode b_Rb_remove 25 = .ok (.aload_n 0, 1) := by decide +kernel
theorem d_Rb_remove_26 : decode b_Rb_remove 26 = .ok (.getfield 11, 3) := by decide +kernel
theorem d_Rb_remove_29 : decode b_Rb_remove 29 = .ok (.iload_n 3, 1) := by decide +kernel
theorem d_Rb_remove_30 : decode b_Rb_remove 30 = .ok (.aload_n 0, 1) := by decide +kernel
theorem d_Rb_remove_31 : decode b_Rb_remove 31 = .ok (.getfield 11, 3) := by decide +kernel
theorem d_Rb_remove_34 : decode b_Rb_remove 34 = .ok (.iload_n 3, 1) := by decide +kernel
theorem d_Rb_remove_35 : decode b_Rb_remove 35 = .ok (.iconst 1, 1) := by decide +kernel
theorem d_Rb_remove_36 : decode b_Rb_remove 36 = .ok (.iadd, 1) := by decide +kernel
theorem d_Rb_remove_37 : decode b_Rb_remove 37 = .ok (.aaload, 1) := by decide +kernel
theorem d_Rb_remove_38 : decode b_Rb_remove 38 = .ok (.aastore, 1) := by decide +kernel
theorem d_Rb_remove_39 : decode b_Rb_remove 39 = .ok (.iinc 3 1, 3) := by decide +kernel
theorem d_Rb_remove_42 : decode b_Rb_remove 42 = .ok (.goto (-28), 3) := by decide +kernel
theorem d_Rb_remove_45 : decode b_Rb_remove 45 = .ok (.aload_n 0, 1) := by decide +kernel
theorem d_Rb_remove_46 : decode b_Rb_remove 46 = .ok (.getfield 11, 3) := by decide +kernel
theorem d_Rb_remove_49 : decode b_Rb_remove 49 = .ok (.aload_n 0, 1) := by decide +kernel
theorem d_Rb_remove_50 : decode b_Rb_remove 50 = .ok (.getfield 11, 3) := by decide +kernel
theorem d_Rb_remove_53 : decode b_Rb_remove 53 = .ok (.arraylength, 1) := by decide +kernel
theorem d_Rb_remove_54 : decode b_Rb_remove 54 = .ok (.iconst 1, 1) := by decide +kernel
theorem d_Rb_remove_55 : decode b_Rb_remove 55 = .ok (.isub, 1) := by decide +kernel
theorem d_Rb_remove_56 : decode b_Rb_remove 56 = .ok (.aconst_null, 1) := by decide +kernel
theorem d_Rb_remove_57 : decode b_Rb_remove 57 = .ok (.aastore, 1) := by decide +kernel
theorem d_Rb_remove_58 : decode b_Rb_remove 58 = .ok (.aload_n 0, 1) := by decide +kernel
theorem d_Rb_remove_59 : decode b_Rb_remove 59 = .ok (.dup, 1) := by decide +kernel
theorem d_Rb_remove_60 : decode b_Rb_remove 60 = .ok (.getfield 17, 3) := by decide +kernel
theorem d_Rb_remove_63 : decode b_Rb_remove 63 = .ok (.iconst 1, 1) := by decide +kernel
theorem d_Rb_remove_64 : decode b_Rb_remove 64 = .ok (.isub, 1) := by decide +kernel
theorem d_Rb_remove_65 : decode b_Rb_remove 65 = .ok (.putfield 17, 3) := by decide +kernel
theorem d_Rb_remove_68 : decode b_Rb_remove 68 = .ok (.iconst 0, 1) := by decide +kernel
theorem d_Rb_remove_69 : decode b_Rb_remove 69 = .ok (.istore_n 3, 1) := by decide +kernel
theorem d_Rb_remove_70 : decode b_Rb_remove 70 = .ok (.iload_n 3, 1) := by decide +kernel
theorem d_Rb_remove_71 : decode b_Rb_remove 71 = .ok (.aload_n 0, 1) := by decide +kernel
theorem d_Rb_remove_72 : decode b_Rb_remove 72 = .ok (.getfield 11, 3) := by decide +kernel
theorem d_Rb_remove_75 : decode b_Rb_remove 75 = .ok (.arraylength, 1) := by decide +kernel
theorem d_Rb_remove_76 : decode b_Rb_remove 76 = .ok (.if_icmp .ge 41, 3) := by decide +kernel
theorem d_Rb_remove_79 : decode b_Rb_remove 79 = .ok (.aload_n 0, 1) := by decide +kernel
theorem d_Rb_remove_80 : decode b_Rb_remove 80 = .ok (.iload_n 3, 1) := by decide +kernel
theorem d_Rb_remove_81 : decode b_Rb_remove 81 = .ok (.invokevirtual 25, 3) := by decide +kernel
theorem d_Rb_remove_84 : decode b_Rb_remove 84 = .ok (.astore 4, 2) := by decide +kernel
theorem d_Rb_remove_86 : decode b_Rb_remove 86 = .ok (.aload 4, 2) := by decide +kernel
theorem d_Rb_remove_88 : decode b_Rb_remove 88 = .ok (.ifnull 23, 3) := by decide +kernel
theorem d_Rb_remove_91 : decode b_Rb_remove 91 = .ok (.aload 4, 2) := by decide +kernel
theorem d_Rb_remove_93 : decode b_Rb_remove 93 = .ok (.getfield 29, 3) := by decide +kernel
theorem d_Rb_remove_96 : decode b_Rb_remove 96 = .ok (.iload_n 2, 1) := by decide +kernel
theorem d_Rb_remove_97 : decode b_Rb_remove 97 = .ok (.if_icmp .le 14, 3) := by decide +kernel
theorem d_Rb_remove_100 : decode b_Rb_remove 100 = .ok (.aload 4, 2) := by decide +kernel
theorem d_Rb_remove_102 : decode b_Rb_remove 102 = .ok (.dup, 1) := by decide +kernel
theorem d_Rb_remove_103 : decode b_Rb_remove 103 = .ok (.getfield 29, 3) := by decide +kernel
theorem d_Rb_remove_106 : decode b_Rb_remove 106 = .ok (.iconst 1, 1) := by decide +kernel
theorem d_Rb_remove_107 : decode b_Rb_remove 107 = .ok (.isub, 1) := by decide +kernel
theorem d_Rb_remove_108 : decode b_Rb_remove 108 = .ok (.putfield 29, 3) := by decide +kernel
theorem d_Rb_remove_111 : decode b_Rb_remove 111 = .ok (.iinc 3 1, 3) := by decide +kernel
theorem d_Rb_remove_114 : decode b_Rb_remove 114 = .ok (.goto (-44), 3) := by decide +kernel
theorem d_Rb_remove_117 : decode b_Rb_remove 117 = .ok (.aload_n 0, 1) := by decide +kernel
theorem d_Rb_remove_118 : decode b_Rb_remove 118 = .ok (.getfield 17, 3) := by decide +kernel
theorem d_Rb_remove_121 : decode b_Rb_remove 121 = .ok (.ireturn, 1) := by decide +kernel
theorem d_Rb_deciderOf_0 : decode b_Rb_deciderOf 0 = .ok (.iload_n 1, 1) := by decide +kernel
theorem d_Rb_deciderOf_1 : decode b_Rb_deciderOf 1 = .ok (.bipush 64, 2) := by decide +kernel
theorem d_Rb_deciderOf_3 : decode b_Rb_deciderOf 3 = .ok (.idiv, 1) := by decide +kernel
theorem d_Rb_deciderOf_4 : decode b_Rb_deciderOf 4 = .ok (.istore_n 2, 1) := by decide +kernel
theorem d_Rb_deciderOf_5 : decode b_Rb_deciderOf 5 = .ok (.lconst 1, 1) := by decide +kernel
theorem d_Rb_deciderOf_6 : decode b_Rb_deciderOf 6 = .ok (.iload_n 1, 1) := by decide +kernel
theorem d_Rb_deciderOf_7 : decode b_Rb_deciderOf 7 = .ok (.bipush 64, 2) := by decide +kernel
theorem d_Rb_deciderOf_9 : decode b_Rb_deciderOf 9 = .ok (.irem, 1) := by decide +kernel
theorem d_Rb_deciderOf_10 : decode b_Rb_deciderOf 10 = .ok (.lshl, 1) := by decide +kernel
theorem d_Rb_deciderOf_11 : decode b_Rb_deciderOf 11 = .ok (.lstore_n 3, 1) := by decide +kernel
theorem d_Rb_deciderOf_12 : decode b_Rb_deciderOf 12 = .ok (.iconst 0, 1) := by decide +kernel
theorem d_Rb_deciderOf_13 : decode b_Rb_deciderOf 13 = .ok (.istore 5, 2) := by decide +kernel
theorem d_Rb_deciderOf_15 : decode b_Rb_deciderOf 15 = .ok (.iload 5, 2) := by decide +kernel
theorem d_Rb_deciderOf_17 : decode b_Rb_deciderOf 17 = .ok (.aload_n 0, 1) := by decide +kernel
theorem d_Rb_deciderOf_18 : decode b_Rb_deciderOf 18 = .ok (.getfield 17, 3) := by decide +kernel
theorem d_Rb_deciderOf_21 : decode b_Rb_deciderOf 21 = .ok (.if_icmp .ge 38, 3) := by decide +kernel
theorem d_Rb_deciderOf_24 : decode b_Rb_deciderOf 24 = .ok (.aload_n 0, 1) := by decide +kernel
theorem d_Rb_deciderOf_25 : decode b_Rb_deciderOf 25 = .ok (.iload 5, 2) := by decide +kernel
theorem d_Rb_deciderOf_27 : decode b_Rb_deciderOf 27 = .ok (.invokevirtual 25, 3) := by decide +kernel
theorem d_Rb_deciderOf_30 : decode b_Rb_deciderOf 30 = .ok (.astore 6, 2) := by decide +kernel
theorem d_Rb_deciderOf_32 : decode b_Rb_deciderOf 32 = .ok (.aload 6, 2) := by decide +kernel
theorem d_Rb_deciderOf_34 : decode b_Rb_deciderOf 34 = .ok (.ifnull 19, 3) := by decide +kernel
theorem d_Rb_deciderOf_37 : decode b_Rb_deciderOf 37 = .ok (.aload 6, 2) := by decide +kernel
theorem d_Rb_deciderOf_39 : decode b_Rb_deciderOf 39 = .ok (.iload_n 2, 1) := by decide +kernel
theorem d_Rb_deciderOf_40 : decode b_Rb_deciderOf 40 = .ok (.invokevirtual 43, 3) := by decide +kernel
theorem d_Rb_deciderOf_43 : decode b_Rb_deciderOf 43 = .ok (.lload_n 3, 1) := by decide +kernel
theorem d_Rb_deciderOf_44 : decode b_Rb_deciderOf 44 = .ok (.land, 1) := by decide +kernel
theorem d_Rb_deciderOf_45 : decode b_Rb_deciderOf 45 = .ok (.lconst 0, 1) := by decide +kernel
theorem d_Rb_deciderOf_46 : decode b_Rb_deciderOf 46 = .ok (.lcmp, 1) := by decide +kernel
theorem d_Rb_deciderOf_47 : decode b_Rb_deciderOf 47 = .ok (.ifCond .eq 6, 3) := by decide +kernel
theorem d_Rb_deciderOf_50 : decode b_Rb_deciderOf 50 = .ok (.aload 6, 2) := by decide +kernel
theorem d_Rb_deciderOf_52 : decode b_Rb_deciderOf 52 = .ok (.areturn, 1) := by decide +kernel
theorem d_Rb_deciderOf_53 : decode b_Rb_deciderOf 53 = .ok (.iinc 5 1, 3) := by decide +kernel
theorem d_Rb_deciderOf_56 : decode b_Rb_deciderOf 56 = .ok (.goto (-41), 3) := by decide +kernel
theorem d_Rb_deciderOf_59 : decode b_Rb_deciderOf 59 = .ok (.aconst_null, 1) := by decide +kernel
theorem d_Rb_deciderOf_60 : decode b_Rb_deciderOf 60 = .ok (.areturn, 1) := by decide +kernel
theorem d_Rb_allowedFrom_0 : decode b_Rb_allowedFrom 0 = .ok (.lload_n 2, 1) := by decide +kernel
theorem d_Rb_allowedFrom_1 : decode b_Rb_allowedFrom 1 = .ok (.lstore 5, 2) := by decide +kernel
theorem d_Rb_allowedFrom_3 : decode b_Rb_allowedFrom 3 = .ok (.lconst 0, 1) := by decide +kernel
theorem d_Rb_allowedFrom_4 : decode b_Rb_allowedFrom 4 = .ok (.lstore 7, 2) := by decide +kernel
theorem d_Rb_allowedFrom_6 : decode b_Rb_allowedFrom 6 = .ok (.iload_n 1, 1) := by decide +kernel
theorem d_Rb_allowedFrom_7 : decode b_Rb_allowedFrom 7 = .ok (.istore 9, 2) := by decide +kernel
theorem d_Rb_allowedFrom_9 : decode b_Rb_allowedFrom 9 = .ok (.iload 9, 2) := by decide +kernel
theorem d_Rb_allowedFrom_11 : decode b_Rb_allowedFrom 11 = .ok (.aload_n 0, 1) := by decide +kernel
theorem d_Rb_allowedFrom_12 : decode b_Rb_allowedFrom 12 = .ok (.getfield 17, 3) := by decide +kernel
theorem d_Rb_allowedFrom_15 : decode b_Rb_allowedFrom 15 = .ok (.if_icmp .ge 71, 3) := by decide +kernel
theorem d_Rb_allowedFrom_18 : decode b_Rb_allowedFrom 18 = .ok (.lload 5, 2) := by decide +kernel
theorem d_Rb_allowedFrom_20 : decode b_Rb_allowedFrom 20 = .ok (.lconst 0, 1) := by decide +kernel
theorem d_Rb_allowedFrom_21 : decode b_Rb_allowedFrom 21 = .ok (.lcmp, 1) := by decide +kernel
theorem d_Rb_allowedFrom_22 : decode b_Rb_allowedFrom 22 = .ok (.ifCond .eq 64, 3) := by decide +kernel
theorem d_Rb_allowedFrom_25 : decode b_Rb_allowedFrom 25 = .ok (.aload_n 0, 1) := by decide +kernel
theorem d_Rb_allowedFrom_26 : decode b_Rb_allowedFrom 26 = .ok (.iload 9, 2) := by decide +kernel
theorem d_Rb_allowedFrom_28 : decode b_Rb_allowedFrom 28 = .ok (.invokevirtual 25, 3) := by decide +kernel
theorem d_Rb_allowedFrom_31 : decode b_Rb_allowedFrom 31 = .ok (.astore 10, 2) := by decide +kernel
theorem d_Rb_allowedFrom_33 : decode b_Rb_allowedFrom 33 = .ok (.aload 10, 2) := by decide +kernel
theorem d_Rb_allowedFrom_35 : decode b_Rb_allowedFrom 35 = .ok (.ifnull 45, 3) := by decide +kernel
theorem d_Rb_allowedFrom_38 : decode b_Rb_allowedFrom 38 = .ok (.lload 5, 2) := by decide +kernel
theorem d_Rb_allowedFrom_40 : decode b_Rb_allowedFrom 40 = .ok (.aload 10, 2) := by decide +kernel
theorem d_Rb_allowedFrom_42 : decode b_Rb_allowedFrom 42 = .ok (.iload 4, 2) := by decide +kernel
theorem d_Rb_allowedFrom_44 : decode b_Rb_allowedFrom 44 = .ok (.invokevirtual 43, 3) := by decide +kernel
theorem d_Rb_allowedFrom_47 : decode b_Rb_allowedFrom 47 = .ok (.land, 1) := by decide +kernel
theorem d_Rb_allowedFrom_48 : decode b_Rb_allowedFrom 48 = .ok (.lstore 11, 2) := by decide +kernel
theorem d_Rb_allowedFrom_50 : decode b_Rb_allowedFrom 50 = .ok (.lload 7, 2) := by decide +kernel
theorem d_Rb_allowedFrom_52 : decode b_Rb_allowedFrom 52 = .ok (.aload 10, 2) := by decide +kernel
theorem d_Rb_allowedFrom_54 : decode b_Rb_allowedFrom 54 = .ok (.getfield 47, 3) := by decide +kernel
theorem d_Rb_allowedFrom_57 : decode b_Rb_allowedFrom 57 = .ok (.ifCond .eq 7, 3) := by decide +kernel
theorem d_Rb_allowedFrom_60 : decode b_Rb_allowedFrom 60 = .ok (.lconst 0, 1) := by decide +kernel
theorem d_Rb_allowedFrom_61 : decode b_Rb_allowedFrom 61 = .ok (.goto 5, 3) := by decide +kernel
theorem d_Rb_allowedFrom_64 : decode b_Rb_allowedFrom 64 = .ok (.lload 11, 2) := by decide +kernel
theorem d_Rb_allowedFrom_66 : decode b_Rb_allowedFrom 66 = .ok (.lor, 1) := by decide +kernel
theorem d_Rb_allowedFrom_67 : decode b_Rb_allowedFrom 67 = .ok (.lstore 7, 2) := by decide +kernel
theorem d_Rb_allowedFrom_69 : decode b_Rb_allowedFrom 69 = .ok (.lload 5, 2) := by decide +kernel
theorem d_Rb_allowedFrom_71 : decode b_Rb_allowedFrom 71 = .ok (.lload 11, 2) := by decide +kernel
theorem d_Rb_allowedFrom_73 : decode b_Rb_allowedFrom 73 = .ok (.ldc2_w 51, 3) := by decide +kernel
theorem d_Rb_allowedFrom_76 : decode b_Rb_allowedFrom 76 = .ok (.lxor, 1) := by decide +kernel
theorem d_Rb_allowedFrom_77 : decode b_Rb_allowedFrom 77 = .ok (.land, 1) := by decide +kernel
theorem d_Rb_allowedFrom_78 : decode b_Rb_allowedFrom 78 = .ok (.lstore 5, 2) := by decide +kernel
theorem d_Rb_allowedFrom_80 : decode b_Rb_allowedFrom 80 = .ok (.iinc 9 1, 3) := by decide +kernel
theorem d_Rb_allowedFrom_83 : decode b_Rb_allowedFrom 83 = .ok (.goto (-74), 3) := by decide +kernel
theorem d_Rb_allowedFrom_86 : decode b_Rb_allowedFrom 86 = .ok (.lload 7, 2) := by decide +kernel
theorem d_Rb_allowedFrom_88 : decode b_Rb_allowedFrom 88 = .ok (.lreturn, 1) := by decide +kernel
theorem d_Rb_decidedAt_0 : decode b_Rb_decidedAt 0 = .ok (.aload_n 0, 1) := by decide +kernel
theorem d_Rb_decidedAt_1 : decode b_Rb_decidedAt 1 = .ok (.iload_n 1, 1) := by decide +kernel
theorem d_Rb_decidedAt_2 : decode b_Rb_decidedAt 2 = .ok (.iload_n 2, 1) := by decide +kernel
theorem d_Rb_decidedAt_3 : decode b_Rb_decidedAt 3 = .ok (.invokevirtual 53, 3) := by decide +kernel
theorem d_Rb_decidedAt_6 : decode b_Rb_decidedAt 6 = .ok (.lstore_n 3, 1) := by decide +kernel
theorem d_Rb_decidedAt_7 : decode b_Rb_decidedAt 7 = .ok (.iconst 0, 1) := by decide +kernel
theorem d_Rb_decidedAt_8 : decode b_Rb_decidedAt 8 = .ok (.istore 5, 2) := by decide +kernel
theorem d_Rb_decidedAt_10 : decode b_Rb_decidedAt 10 = .ok (.iload 5, 2) := by decide +kernel
theorem d_Rb_decidedAt_12 : decode b_Rb_decidedAt 12 = .ok (.iload_n 1, 1) := by decide +kernel
theorem d_Rb_decidedAt_13 : decode b_Rb_decidedAt 13 = .ok (.if_icmp .ge 29, 3) := by decide +kernel
theorem d_Rb_decidedAt_16 : decode b_Rb_decidedAt 16 = .ok (.lload_n 3, 1) := by decide +kernel
theorem d_Rb_decidedAt_17 : decode b_Rb_decidedAt 17 = .ok (.lconst 0, 1) := by decide +kernel
theorem d_Rb_decidedAt_18 : decode b_Rb_decidedAt 18 = .ok (.lcmp, 1) := by decide +kernel
theorem d_Rb_decidedAt_19 : decode b_Rb_decidedAt 19 = .ok (.ifCond .eq 23, 3) := by decide +kernel
theorem d_Rb_decidedAt_22 : decode b_Rb_decidedAt 22 = .ok (.lload_n 3, 1) := by decide +kernel
theorem d_Rb_decidedAt_23 : decode b_Rb_decidedAt 23 = .ok (.aload_n 0, 1) := by decide +kernel
theorem d_Rb_decidedAt_24 : decode b_Rb_decidedAt 24 = .ok (.iload 5, 2) := by decide +kernel
theorem d_Rb_decidedAt_26 : decode b_Rb_decidedAt 26 = .ok (.iload_n 2, 1) := by decide +kernel
theorem d_Rb_decidedAt_27 : decode b_Rb_decidedAt 27 = .ok (.invokevirtual 53, 3) := by decide +kernel
theorem d_Rb_decidedAt_30 : decode b_Rb_decidedAt 30 = .ok (.ldc2_w 51, 3) := by decide +kernel
theorem d_Rb_decidedAt_33 : decode b_Rb_decidedAt 33 = .ok (.lxor, 1) := by decide +kernel
theorem d_Rb_decidedAt_34 : decode b_Rb_decidedAt 34 = .ok (.land, 1) := by decide +kernel
theorem d_Rb_decidedAt_35 : decode b_Rb_decidedAt 35 = .ok (.lstore_n 3, 1) := by decide +kernel
theorem d_Rb_decidedAt_36 : decode b_Rb_decidedAt 36 = .ok (.iinc 5 1, 3) := by decide +kernel
theorem d_Rb_decidedAt_39 : decode b_Rb_decidedAt 39 = .ok (.goto (-29), 3) := by decide +kernel
theorem d_Rb_decidedAt_42 : decode b_Rb_decidedAt 42 = .ok (.lload_n 3, 1) := by decide +kernel
theorem d_Rb_decidedAt_43 : decode b_Rb_decidedAt 43 = .ok (.lreturn, 1) := by decide +kernel
theorem d_Rb_wordAt_0 : decode b_Rb_wordAt 0 = .ok (.aload_n 0, 1) := by decide +kernel
theorem d_Rb_wordAt_1 : decode b_Rb_wordAt 1 = .ok (.iload_n 1, 1) := by decide +kernel
theorem d_Rb_wordAt_2 : decode b_Rb_wordAt 2 = .ok (.invokevirtual 25, 3) := by decide +kernel
theorem d_Rb_wordAt_5 : decode b_Rb_wordAt 5 = .ok (.astore_n 3, 1) := by decide +kernel
theorem d_Rb_wordAt_6 : decode b_Rb_wordAt 6 = .ok (.aload_n 3, 1) := by decide +kernel
theorem d_Rb_wordAt_7 : decode b_Rb_wordAt 7 = .ok (.ifnonnull 7, 3) := by decide +kernel
theorem d_Rb_wordAt_10 : decode b_Rb_wordAt 10 = .ok (.lconst 0, 1) := by decide +kernel
theorem d_Rb_wordAt_11 : decode b_Rb_wordAt 11 = .ok (.goto 8, 3) := by decide +kernel
theorem d_Rb_wordAt_14 : decode b_Rb_wordAt 14 = .ok (.aload_n 3, 1) := by decide +kernel
theorem d_Rb_wordAt_15 : decode b_Rb_wordAt 15 = .ok (.iload_n 2, 1) := by decide +kernel
theorem d_Rb_wordAt_16 : decode b_Rb_wordAt 16 = .ok (.invokevirtual 43, 3) := by decide +kernel
theorem d_Rb_wordAt_19 : decode b_Rb_wordAt 19 = .ok (.lreturn, 1) := by decide +kernel
theorem d_Rb_turnedAt_0 : decode b_Rb_turnedAt 0 = .ok (.aload_n 0, 1) := by decide +kernel
theorem d_Rb_turnedAt_1 : decode b_Rb_turnedAt 1 = .ok (.iload_n 1, 1) := by decide +kernel
theorem d_Rb_turnedAt_2 : decode b_Rb_turnedAt 2 = .ok (.invokevirtual 25, 3) := by decide +kernel
theorem d_Rb_turnedAt_5 : decode b_Rb_turnedAt 5 = .ok (.astore_n 3, 1) := by decide +kernel
theorem d_Rb_turnedAt_6 : decode b_Rb_turnedAt 6 = .ok (.aload_n 3, 1) := by decide +kernel
theorem d_Rb_turnedAt_7 : decode b_Rb_turnedAt 7 = .ok (.ifnonnull 5, 3) := by decide +kernel
theorem d_Rb_turnedAt_10 : decode b_Rb_turnedAt 10 = .ok (.lconst 0, 1) := by decide +kernel
theorem d_Rb_turnedAt_11 : decode b_Rb_turnedAt 11 = .ok (.lreturn, 1) := by decide +kernel
theorem d_Rb_turnedAt_12 : decode b_Rb_turnedAt 12 = .ok (.aload_n 0, 1) := by decide +kernel
theorem d_Rb_turnedAt_13 : decode b_Rb_turnedAt 13 = .ok (.iload_n 1, 1) := by decide +kernel
theorem d_Rb_turnedAt_14 : decode b_Rb_turnedAt 14 = .ok (.iload_n 2, 1) := by decide +kernel
theorem d_Rb_turnedAt_15 : decode b_Rb_turnedAt 15 = .ok (.invokevirtual 57, 3) := by decide +kernel
theorem d_Rb_turnedAt_18 : decode b_Rb_turnedAt 18 = .ok (.lstore 4, 2) := by decide +kernel
theorem d_Rb_turnedAt_20 : decode b_Rb_turnedAt 20 = .ok (.aload_n 0, 1) := by decide +kernel
theorem d_Rb_turnedAt_21 : decode b_Rb_turnedAt 21 = .ok (.iload_n 1, 1) := by decide +kernel
theorem d_Rb_turnedAt_22 : decode b_Rb_turnedAt 22 = .ok (.iconst 1, 1) := by decide +kernel
theorem d_Rb_turnedAt_23 : decode b_Rb_turnedAt 23 = .ok (.iadd, 1) := by decide +kernel
theorem d_Rb_turnedAt_24 : decode b_Rb_turnedAt 24 = .ok (.lload 4, 2) := by decide +kernel
theorem d_Rb_turnedAt_26 : decode b_Rb_turnedAt 26 = .ok (.iload_n 2, 1) := by decide +kernel
theorem d_Rb_turnedAt_27 : decode b_Rb_turnedAt 27 = .ok (.invokevirtual 60, 3) := by decide +kernel
theorem d_Rb_turnedAt_30 : decode b_Rb_turnedAt 30 = .ok (.lstore 6, 2) := by decide +kernel
theorem d_Rb_turnedAt_32 : decode b_Rb_turnedAt 32 = .ok (.aload_n 3, 1) := by decide +kernel
theorem d_Rb_turnedAt_33 : decode b_Rb_turnedAt 33 = .ok (.getfield 47, 3) := by decide +kernel
theorem d_Rb_turnedAt_36 : decode b_Rb_turnedAt 36 = .ok (.ifCond .eq 8, 3) := by decide +kernel
theorem d_Rb_turnedAt_39 : decode b_Rb_turnedAt 39 = .ok (.lload 6, 2) := by decide +kernel
theorem d_Rb_turnedAt_41 : decode b_Rb_turnedAt 41 = .ok (.goto 12, 3) := by decide +kernel
theorem d_Rb_turnedAt_44 : decode b_Rb_turnedAt 44 = .ok (.lload 4, 2) := by decide +kernel
theorem d_Rb_turnedAt_46 : decode b_Rb_turnedAt 46 = .ok (.lload 6, 2) := by decide +kernel
theorem d_Rb_turnedAt_48 : decode b_Rb_turnedAt 48 = .ok (.ldc2_w 51, 3) := by decide +kernel
theorem d_Rb_turnedAt_51 : decode b_Rb_turnedAt 51 = .ok (.lxor, 1) := by decide +kernel
theorem d_Rb_turnedAt_52 : decode b_Rb_turnedAt 52 = .ok (.land, 1) := by decide +kernel
theorem d_Rb_turnedAt_53 : decode b_Rb_turnedAt 53 = .ok (.lreturn, 1) := by decide +kernel
theorem d_Rb_idleRank_0 : decode b_Rb_idleRank 0 = .ok (.lload_n 2, 1) := by decide +kernel
theorem d_Rb_idleRank_1 : decode b_Rb_idleRank 1 = .ok (.lstore 5, 2) := by decide +kernel
theorem d_Rb_idleRank_3 : decode b_Rb_idleRank 3 = .ok (.iconst 0, 1) := by decide +kernel
theorem d_Rb_idleRank_4 : decode b_Rb_idleRank 4 = .ok (.istore 7, 2) := by decide +kernel
theorem d_Rb_idleRank_6 : decode b_Rb_idleRank 6 = .ok (.iconst 0, 1) := by decide +kernel
theorem d_Rb_idleRank_7 : decode b_Rb_idleRank 7 = .ok (.istore 8, 2) := by decide +kernel
theorem d_Rb_idleRank_9 : decode b_Rb_idleRank 9 = .ok (.iload 8, 2) := by decide +kernel
theorem d_Rb_idleRank_11 : decode b_Rb_idleRank 11 = .ok (.aload_n 0, 1) := by decide +kernel
theorem d_Rb_idleRank_12 : decode b_Rb_idleRank 12 = .ok (.getfield 17, 3) := by decide +kernel
theorem d_Rb_idleRank_15 : decode b_Rb_idleRank 15 = .ok (.if_icmp .ge 53, 3) := by decide +kernel
theorem d_Rb_idleRank_18 : decode b_Rb_idleRank 18 = .ok (.lload 5, 2) := by decide +kernel
theorem d_Rb_idleRank_20 : decode b_Rb_idleRank 20 = .ok (.lconst 0, 1) := by decide +kernel
theorem d_Rb_idleRank_21 : decode b_Rb_idleRank 21 = .ok (.lcmp, 1) := by decide +kernel
theorem d_Rb_idleRank_22 : decode b_Rb_idleRank 22 = .ok (.ifCond .eq 46, 3) := by decide +kernel
theorem d_Rb_idleRank_25 : decode b_Rb_idleRank 25 = .ok (.aload_n 0, 1) := by decide +kernel
theorem d_Rb_idleRank_26 : decode b_Rb_idleRank 26 = .ok (.iload 8, 2) := by decide +kernel
theorem d_Rb_idleRank_28 : decode b_Rb_idleRank 28 = .ok (.invokevirtual 25, 3) := by decide +kernel
theorem d_Rb_idleRank_31 : decode b_Rb_idleRank 31 = .ok (.astore 9, 2) := by decide +kernel
theorem d_Rb_idleRank_33 : decode b_Rb_idleRank 33 = .ok (.aload 9, 2) := by decide +kernel
theorem d_Rb_idleRank_35 : decode b_Rb_idleRank 35 = .ok (.ifnull 27, 3) := by decide +kernel
theorem d_Rb_idleRank_38 : decode b_Rb_idleRank 38 = .ok (.aload 9, 2) := by decide +kernel
theorem d_Rb_idleRank_40 : decode b_Rb_idleRank 40 = .ok (.iload_n 1, 1) := by decide +kernel
theorem d_Rb_idleRank_41 : decode b_Rb_idleRank 41 = .ok (.invokevirtual 64, 3) := by decide +kernel
theorem d_Rb_idleRank_44 : decode b_Rb_idleRank 44 = .ok (.istore 7, 2) := by decide +kernel
theorem d_Rb_idleRank_46 : decode b_Rb_idleRank 46 = .ok (.lload 5, 2) := by decide +kernel
theorem d_Rb_idleRank_48 : decode b_Rb_idleRank 48 = .ok (.aload 9, 2) := by decide +kernel
theorem d_Rb_idleRank_50 : decode b_Rb_idleRank 50 = .ok (.iload 4, 2) := by decide +kernel
theorem d_Rb_idleRank_52 : decode b_Rb_idleRank 52 = .ok (.invokevirtual 43, 3) := by decide +kernel
theorem d_Rb_idleRank_55 : decode b_Rb_idleRank 55 = .ok (.ldc2_w 51, 3) := by decide +kernel
theorem d_Rb_idleRank_58 : decode b_Rb_idleRank 58 = .ok (.lxor, 1) := by decide +kernel
theorem d_Rb_idleRank_59 : decode b_Rb_idleRank 59 = .ok (.land, 1) := by decide +kernel
theorem d_Rb_idleRank_60 : decode b_Rb_idleRank 60 = .ok (.lstore 5, 2) := by decide +kernel
theorem d_Rb_idleRank_62 : decode b_Rb_idleRank 62 = .ok (.iinc 8 1, 3) := by decide +kernel
theorem d_Rb_idleRank_65 : decode b_Rb_idleRank 65 = .ok (.goto (-56), 3) := by decide +kernel
theorem d_Rb_idleRank_68 : decode b_Rb_idleRank 68 = .ok (.lload 5, 2) := by decide +kernel
theorem d_Rb_idleRank_70 : decode b_Rb_idleRank 70 = .ok (.lconst 0, 1) := by decide +kernel
theorem d_Rb_idleRank_71 : decode b_Rb_idleRank 71 = .ok (.lcmp, 1) := by decide +kernel
theorem d_Rb_idleRank_72 : decode b_Rb_idleRank 72 = .ok (.ifCond .ne 8, 3) := by decide +kernel
theorem d_Rb_idleRank_75 : decode b_Rb_idleRank 75 = .ok (.iload 7, 2) := by decide +kernel
theorem d_Rb_idleRank_77 : decode b_Rb_idleRank 77 = .ok (.goto 5, 3) := by decide +kernel
theorem d_Rb_idleRank_80 : decode b_Rb_idleRank 80 = .ok (.bipush 10, 2) := by decide +kernel
theorem d_Rb_idleRank_82 : decode b_Rb_idleRank 82 = .ok (.ireturn, 1) := by decide +kernel
end
section
theorem kw_0 : (.constantLong R_Lo 314 6148914691236517205 : Cond) ∈ AW := aw_t 233 (by decide +kernel) (by decide +kernel)
theorem kw_1 : (.constantLong R_Lo 316 3689348814741910323 : Cond) ∈ AW := aw_t 234 (by decide +kernel) (by decide +kernel)
theorem kw_2 : (.constantLong R_Lo 318 1085102592571150095 : Cond) ∈ AW := aw_t 235 (by decide +kernel) (by decide +kernel)
theorem kw_3 : (.fieldLink R_Co 24 "RightDesk$Condition" "words" "[J" : Cond) ∈ AW := aw_t 143 (by decide +kernel) (by decide +kernel)
theorem kw_4 : (.code y_De_isBelow b_De_isBelow 2 (some .boolean) : Cond) ∈ AW := aw_t 66 (by decide +kernel) (by decide +kernel)
theorem kw_5 : (.initialized R_De : Cond) ∈ AW := aw_t 1 (by decide +kernel) (by decide +kernel)
theorem kw_6 : (.static y_De_isBelow : Cond) ∈ AW := aw_t 65 (by decide +kernel) (by decide +kernel)
theorem kw_7 : (.fieldLink R_Cb 11 "RightDesk$ConditionBook" "made" "[LRightDesk$Condition;" : Cond) ∈ AW := aw_t 25 (by decide +kernel) (by decide +kernel)
theorem kw_8 : (.fieldLink R_Rb 11 "RightDesk$RuleBook" "row" "[LRightDesk$Rule;" : Cond) ∈ AW := aw_t 45 (by decide +kernel) (by decide +kernel)
theorem kw_9 : (.fieldLink R_Ru 20 "RightDesk$Rule" "condition" "LRightDesk$Condition;" : Cond) ∈ AW := aw_t 175 (by decide +kernel) (by decide +kernel)
theorem kw_10 : (.code y_Co_word b_Co_word 2 (some .long) : Cond) ∈ AW := aw_t 110 (by decide +kernel) (by decide +kernel)
theorem kw_11 : (.initialized R_Co : Cond) ∈ AW := aw_t 5 (by decide +kernel) (by decide +kernel)
theorem kw_12 : (.instanceMethod y_Co_word : Cond) ∈ AW := aw_t 108 (by decide +kernel) (by decide +kernel)
theorem kw_13 : (.selects R_Co y_Co_word y_Co_word : Cond) ∈ AW := aw_s 7 (by decide +kernel) (by decide +kernel)
theorem kw_14 : (.fieldLink R_Ru 13 "RightDesk$Rule" "rank" "I" : Cond) ∈ AW := aw_t 171 (by decide +kernel) (by decide +kernel)
theorem kw_15 : (.fieldLink R_Ru 16 "RightDesk$Rule" "denies" "Z" : Cond) ∈ AW := aw_t 172 (by decide +kernel) (by decide +kernel)
theorem kw_16 : (.constantLong R_Cb 74 4294967295 : Cond) ∈ AW := aw_t 92 (by decide +kernel) (by decide +kernel)
theorem kw_17 : (.constantLong R_De 116 72340172838076673 : Cond) ∈ AW := aw_t 97 (by decide +kernel) (by decide +kernel)
theorem kw_18 : (.code y_Cb_at b_Cb_at 2 (some (.object "RightDesk$Condition")) : Cond) ∈ AW := aw_t 83 (by decide +kernel) (by decide +kernel)
theorem kw_19 : (.initialized R_Cb : Cond) ∈ AW := aw_t 2 (by decide +kernel) (by decide +kernel)
theorem kw_20 : (.methodLink R_Cb 47 y_Cb_at : Cond) ∈ AW := aw_t 80 (by decide +kernel) (by decide +kernel)
theorem kw_21 : (.instanceMethod y_Cb_at : Cond) ∈ AW := aw_t 82 (by decide +kernel) (by decide +kernel)
theorem kw_22 : (.selects R_Cb y_Cb_at y_Cb_at : Cond) ∈ AW := aw_s 3 (by decide +kernel) (by decide +kernel)
theorem kw_23 : (.fieldLink R_Cb 17 "RightDesk$ConditionBook" "members" "[Z" : Cond) ∈ AW := aw_t 26 (by decide +kernel) (by decide +kernel)
theorem kw_24 : (.fieldLink R_Cb 21 "RightDesk$ConditionBook" "count" "I" : Cond) ∈ AW := aw_t 27 (by decide +kernel) (by decide +kernel)
theorem kw_25 : (.code y_Cb_wordOf b_Cb_wordOf 4 (some .long) : Cond) ∈ AW := aw_t 105 (by decide +kernel) (by decide +kernel)
theorem kw_26 : (.methodLink R_Cb 76 y_Cb_wordOf : Cond) ∈ AW := aw_t 102 (by decide +kernel) (by decide +kernel)
theorem kw_27 : (.instanceMethod y_Cb_wordOf : Cond) ∈ AW := aw_t 104 (by decide +kernel) (by decide +kernel)
theorem kw_28 : (.selects R_Cb y_Cb_wordOf y_Cb_wordOf : Cond) ∈ AW := aw_s 6 (by decide +kernel) (by decide +kernel)
theorem kw_29 : (.constantLong R_Cb 57 (-1) : Cond) ∈ AW := aw_t 88 (by decide +kernel) (by decide +kernel)
theorem kw_30 : (.code y_Cb_twoOfThree b_Cb_twoOfThree 6 (some .long) : Cond) ∈ AW := aw_t 114 (by decide +kernel) (by decide +kernel)
theorem kw_31 : (.methodLink R_Cb 82 y_Cb_twoOfThree : Cond) ∈ AW := aw_t 112 (by decide +kernel) (by decide +kernel)
theorem kw_32 : (.static y_Cb_twoOfThree : Cond) ∈ AW := aw_t 113 (by decide +kernel) (by decide +kernel)
theorem kw_33 : (.code y_Cb_isMember b_Cb_isMember 4 (some .boolean) : Cond) ∈ AW := aw_t 74 (by decide +kernel) (by decide +kernel)
theorem kw_34 : (.methodLink R_Cb 40 y_Cb_isMember : Cond) ∈ AW := aw_t 71 (by decide +kernel) (by decide +kernel)
theorem kw_35 : (.instanceMethod y_Cb_isMember : Cond) ∈ AW := aw_t 73 (by decide +kernel) (by decide +kernel)
theorem kw_36 : (.selects R_Cb y_Cb_isMember y_Cb_isMember : Cond) ∈ AW := aw_s 1 (by decide +kernel) (by decide +kernel)
theorem kw_37 : (.code y_Cb_predicateIn b_Cb_predicateIn 2 (some .long) : Cond) ∈ AW := aw_t 91 (by decide +kernel) (by decide +kernel)
theorem kw_38 : (.methodLink R_Cb 59 y_Cb_predicateIn : Cond) ∈ AW := aw_t 89 (by decide +kernel) (by decide +kernel)
theorem kw_39 : (.static y_Cb_predicateIn : Cond) ∈ AW := aw_t 90 (by decide +kernel) (by decide +kernel)
theorem kw_40 : (.constantLong R_Cb 63 1095216660735 : Cond) ∈ AW := aw_t 93 (by decide +kernel) (by decide +kernel)
theorem kw_41 : (.code y_De_versionsFromTo b_De_versionsFromTo 5 (some .long) : Cond) ∈ AW := aw_t 96 (by decide +kernel) (by decide +kernel)
theorem kw_42 : (.static y_De_versionsFromTo : Cond) ∈ AW := aw_t 95 (by decide +kernel) (by decide +kernel)
theorem kw_43 : (.code y_Cb_putTogether b_Cb_putTogether 3 (some .long) : Cond) ∈ AW := aw_t 101 (by decide +kernel) (by decide +kernel)
theorem kw_44 : (.methodLink R_Cb 71 y_Cb_putTogether : Cond) ∈ AW := aw_t 98 (by decide +kernel) (by decide +kernel)
theorem kw_45 : (.instanceMethod y_Cb_putTogether : Cond) ∈ AW := aw_t 100 (by decide +kernel) (by decide +kernel)
theorem kw_46 : (.selects R_Cb y_Cb_putTogether y_Cb_putTogether : Cond) ∈ AW := aw_s 5 (by decide +kernel) (by decide +kernel)
theorem kw_47 : (.code y_Rb_at b_Rb_at 2 (some (.object "RightDesk$Rule")) : Cond) ∈ AW := aw_t 195 (by decide +kernel) (by decide +kernel)
theorem kw_48 : (.initialized R_Rb : Cond) ∈ AW := aw_t 3 (by decide +kernel) (by decide +kernel)
theorem kw_49 : (.methodLink R_Rb 25 y_Rb_at : Cond) ∈ AW := aw_t 192 (by decide +kernel) (by decide +kernel)
theorem kw_50 : (.instanceMethod y_Rb_at : Cond) ∈ AW := aw_t 194 (by decide +kernel) (by decide +kernel)
theorem kw_51 : (.selects R_Rb y_Rb_at y_Rb_at : Cond) ∈ AW := aw_s 13 (by decide +kernel) (by decide +kernel)
theorem kw_52 : (.code y_Ru_word b_Ru_word 2 (some .long) : Cond) ∈ AW := aw_t 223 (by decide +kernel) (by decide +kernel)
theorem kw_53 : (.initialized R_Ru : Cond) ∈ AW := aw_t 6 (by decide +kernel) (by decide +kernel)
theorem kw_54 : (.instanceMethod y_Ru_word : Cond) ∈ AW := aw_t 222 (by decide +kernel) (by decide +kernel)
theorem kw_55 : (.selects R_Ru y_Ru_word y_Ru_word : Cond) ∈ AW := aw_s 18 (by decide +kernel) (by decide +kernel)
theorem kw_56 : (.code y_Ru_goesBefore b_Ru_goesBefore 2 (some .boolean) : Cond) ∈ AW := aw_t 199 (by decide +kernel) (by decide +kernel)
theorem kw_57 : (.instanceMethod y_Ru_goesBefore : Cond) ∈ AW := aw_t 198 (by decide +kernel) (by decide +kernel)
theorem kw_58 : (.selects R_Ru y_Ru_goesBefore y_Ru_goesBefore : Cond) ∈ AW := aw_s 14 (by decide +kernel) (by decide +kernel)
theorem kw_59 : (.fieldLink R_Rb 17 "RightDesk$RuleBook" "count" "I" : Cond) ∈ AW := aw_t 46 (by decide +kernel) (by decide +kernel)
theorem kw_60 : (.constantLong R_Rb 51 (-1) : Cond) ∈ AW := aw_t 260 (by decide +kernel) (by decide +kernel)
theorem kw_61 : (.code y_Rb_wordAt b_Rb_wordAt 4 (some .long) : Cond) ∈ AW := aw_t 259 (by decide +kernel) (by decide +kernel)
theorem kw_62 : (.methodLink R_Rb 53 y_Rb_wordAt : Cond) ∈ AW := aw_t 256 (by decide +kernel) (by decide +kernel)
theorem kw_63 : (.instanceMethod y_Rb_wordAt : Cond) ∈ AW := aw_t 258 (by decide +kernel) (by decide +kernel)
theorem kw_64 : (.selects R_Rb y_Rb_wordAt y_Rb_wordAt : Cond) ∈ AW := aw_s 20 (by decide +kernel) (by decide +kernel)
theorem kw_65 : (.code y_Rb_decidedAt b_Rb_decidedAt 6 (some .long) : Cond) ∈ AW := aw_t 255 (by decide +kernel) (by decide +kernel)
theorem kw_66 : (.methodLink R_Rb 57 y_Rb_decidedAt : Cond) ∈ AW := aw_t 282 (by decide +kernel) (by decide +kernel)
theorem kw_67 : (.instanceMethod y_Rb_decidedAt : Cond) ∈ AW := aw_t 254 (by decide +kernel) (by decide +kernel)
theorem kw_68 : (.selects R_Rb y_Rb_decidedAt y_Rb_decidedAt : Cond) ∈ AW := aw_s 19 (by decide +kernel) (by decide +kernel)
theorem kw_69 : (.code y_Rb_allowedFrom b_Rb_allowedFrom 13 (some .long) : Cond) ∈ AW := aw_t 273 (by decide +kernel) (by decide +kernel)
theorem kw_70 : (.methodLink R_Rb 60 y_Rb_allowedFrom : Cond) ∈ AW := aw_t 283 (by decide +kernel) (by decide +kernel)
theorem kw_71 : (.instanceMethod y_Rb_allowedFrom : Cond) ∈ AW := aw_t 272 (by decide +kernel) (by decide +kernel)
theorem kw_72 : (.selects R_Rb y_Rb_allowedFrom y_Rb_allowedFrom : Cond) ∈ AW := aw_s 22 (by decide +kernel) (by decide +kernel)
theorem kw_73 : (.code y_Ru_rankBehind b_Ru_rankBehind 2 (some .int) : Cond) ∈ AW := aw_t 295 (by decide +kernel) (by decide +kernel)
theorem kw_74 : (.instanceMethod y_Ru_rankBehind : Cond) ∈ AW := aw_t 294 (by decide +kernel) (by decide +kernel)
theorem kw_75 : (.selects R_Ru y_Ru_rankBehind y_Ru_rankBehind : Cond) ∈ AW := aw_s 25 (by decide +kernel) (by decide +kernel)
theorem kw_76 : (.code y_Lo_bitCount b_Lo_bitCount 2 (some .int) : Cond) ∈ AW := aw_t 232 (by decide +kernel) (by decide +kernel)
theorem kw_77 : (.initialized R_Lo : Cond) ∈ AW := aw_t 7 (by decide +kernel) (by decide +kernel)
theorem kw_78 : (.methodLink R_De 74 y_Lo_bitCount : Cond) ∈ AW := aw_t 230 (by decide +kernel) (by decide +kernel)
theorem kw_79 : (.static y_Lo_bitCount : Cond) ∈ AW := aw_t 231 (by decide +kernel) (by decide +kernel)
theorem kw_80 : (.fieldLink R_De 10 "RightDesk" "conditionBook" "LRightDesk$ConditionBook;" : Cond) ∈ AW := aw_t 53 (by decide +kernel) (by decide +kernel)
theorem kw_81 : (.fieldLink R_De 19 "RightDesk" "ruleBook" "LRightDesk$RuleBook;" : Cond) ∈ AW := aw_t 54 (by decide +kernel) (by decide +kernel)
theorem kw_82 : (.constantLong R_De 84 (-1) : Cond) ∈ AW := aw_t 247 (by decide +kernel) (by decide +kernel)
theorem kw_83 : (.code y_De_allowedIn b_De_allowedIn 2 (some .long) : Cond) ∈ AW := aw_t 269 (by decide +kernel) (by decide +kernel)
theorem kw_84 : (.methodLink R_De 93 y_De_allowedIn : Cond) ∈ AW := aw_t 266 (by decide +kernel) (by decide +kernel)
theorem kw_85 : (.instanceMethod y_De_allowedIn : Cond) ∈ AW := aw_t 268 (by decide +kernel) (by decide +kernel)
theorem kw_86 : (.selects R_De y_De_allowedIn y_De_allowedIn : Cond) ∈ AW := aw_s 21 (by decide +kernel) (by decide +kernel)
theorem kw_87 : (.code y_De_bitPlace b_De_bitPlace 7 (some .int) : Cond) ∈ AW := aw_t 242 (by decide +kernel) (by decide +kernel)
theorem kw_88 : (.methodLink R_De 80 y_De_bitPlace : Cond) ∈ AW := aw_t 240 (by decide +kernel) (by decide +kernel)
theorem kw_89 : (.static y_De_bitPlace : Cond) ∈ AW := aw_t 241 (by decide +kernel) (by decide +kernel)
theorem kw_90 : (.code y_Rb_placeOf b_Rb_placeOf 4 (some .int) : Cond) ∈ AW := aw_t 207 (by decide +kernel) (by decide +kernel)
theorem kw_91 : (.instanceMethod y_Rb_placeOf : Cond) ∈ AW := aw_t 206 (by decide +kernel) (by decide +kernel)
theorem kw_92 : (.selects R_Rb y_Rb_placeOf y_Rb_placeOf : Cond) ∈ AW := aw_s 15 (by decide +kernel) (by decide +kernel)
theorem kw_93 : (.code y_Rb_turnedAt b_Rb_turnedAt 8 (some .long) : Cond) ∈ AW := aw_t 281 (by decide +kernel) (by decide +kernel)
theorem kw_94 : (.instanceMethod y_Rb_turnedAt : Cond) ∈ AW := aw_t 280 (by decide +kernel) (by decide +kernel)
theorem kw_95 : (.selects R_Rb y_Rb_turnedAt y_Rb_turnedAt : Cond) ∈ AW := aw_s 23 (by decide +kernel) (by decide +kernel)
theorem kw_96 : (.methodLink R_De 23 y_De_isBelow : Cond) ∈ AW := aw_t 64 (by decide +kernel) (by decide +kernel)
theorem kw_97 : (.methodLink R_De 90 y_De_versionsFromTo : Cond) ∈ AW := aw_t 265 (by decide +kernel) (by decide +kernel)
theorem kw_98 : (.code y_Rb_idleRank b_Rb_idleRank 10 (some .int) : Cond) ∈ AW := aw_t 291 (by decide +kernel) (by decide +kernel)
theorem kw_99 : (.instanceMethod y_Rb_idleRank : Cond) ∈ AW := aw_t 290 (by decide +kernel) (by decide +kernel)
theorem kw_100 : (.selects R_Rb y_Rb_idleRank y_Rb_idleRank : Cond) ∈ AW := aw_s 24 (by decide +kernel) (by decide +kernel)
theorem kw_101 : (.methodLink R_De 103 Lib.Math.max.name : Cond) ∈ AW := aw_t 296 (by decide +kernel) (by decide +kernel)
theorem kw_102 : (.static Lib.Math.max.name : Cond) ∈ AW := aw_t 297 (by decide +kernel) (by decide +kernel)
theorem kw_103 : (.initialized "java/lang/Math" : Cond) ∈ AW := aw_t 8 (by decide +kernel) (by decide +kernel)
theorem kw_104 : (.code Lib.Math.max.name Lib.Math.max.code 2 (some .int) : Cond) ∈ AW := aw_t 298 (by decide +kernel) (by decide +kernel)
theorem kw_105 : (.code y_Rb_deciderOf b_Rb_deciderOf 7 (some (.object "RightDesk$Rule")) : Cond) ∈ AW := aw_t 219 (by decide +kernel) (by decide +kernel)
theorem kw_106 : (.instanceMethod y_Rb_deciderOf : Cond) ∈ AW := aw_t 218 (by decide +kernel) (by decide +kernel)
theorem kw_107 : (.selects R_Rb y_Rb_deciderOf y_Rb_deciderOf : Cond) ∈ AW := aw_s 17 (by decide +kernel) (by decide +kernel)
theorem kw_108 : (.methodLink R_Co 3 objectInit : Cond) ∈ AW := aw_t 134 (by decide +kernel) (by decide +kernel)
theorem kw_109 : (.instanceMethod objectInit : Cond) ∈ AW := aw_t 15 (by decide +kernel) (by decide +kernel)
theorem kw_110 : (.code objectInit ⟨#[0xb1]⟩ 1 none : Cond) ∈ AW := aw_t 16 (by decide +kernel) (by decide +kernel)
theorem kw_111 : (.fieldLink R_Co 9 "RightDesk$Condition" "kind" "I" : Cond) ∈ AW := aw_t 135 (by decide +kernel) (by decide +kernel)
theorem kw_112 : (.fieldLink R_Co 15 "RightDesk$Condition" "a" "I" : Cond) ∈ AW := aw_t 137 (by decide +kernel) (by decide +kernel)
theorem kw_113 : (.fieldLink R_Co 18 "RightDesk$Condition" "b" "I" : Cond) ∈ AW := aw_t 139 (by decide +kernel) (by decide +kernel)
theorem kw_114 : (.fieldLink R_Co 21 "RightDesk$Condition" "c" "I" : Cond) ∈ AW := aw_t 141 (by decide +kernel) (by decide +kernel)
theorem kw_115 : (.arrayClass .long : Cond) ∈ AW := aw_t 155 (by decide +kernel) (by decide +kernel)
theorem kw_116 : (.methodLink R_Ru 1 objectInit : Cond) ∈ AW := aw_t 170 (by decide +kernel) (by decide +kernel)
theorem kw_117 : (.fieldLink R_Ru 7 "RightDesk$Rule" "number" "I" : Cond) ∈ AW := aw_t 176 (by decide +kernel) (by decide +kernel)
theorem kw_118 : (.methodLink R_Cb 3 objectInit : Cond) ∈ AW := aw_t 22 (by decide +kernel) (by decide +kernel)
theorem kw_119 : (.classLink R_Cb 9 "RightDesk$Condition" : Cond) ∈ AW := aw_t 23 (by decide +kernel) (by decide +kernel)
theorem kw_120 : (.arrayClass .boolean : Cond) ∈ AW := aw_t 36 (by decide +kernel) (by decide +kernel)
theorem kw_121 : (.methodLink R_Rb 3 objectInit : Cond) ∈ AW := aw_t 42 (by decide +kernel) (by decide +kernel)
theorem kw_122 : (.classLink R_Rb 9 "RightDesk$Rule" : Cond) ∈ AW := aw_t 43 (by decide +kernel) (by decide +kernel)
theorem kw_123 : (.methodLink R_De 1 objectInit : Cond) ∈ AW := aw_t 14 (by decide +kernel) (by decide +kernel)
theorem kw_124 : (.classLink R_De 7 R_Cb : Cond) ∈ AW := aw_t 17 (by decide +kernel) (by decide +kernel)
theorem kw_125 : (.instantiable R_Cb 3 : Cond) ∈ AW := aw_t 18 (by decide +kernel) (by decide +kernel)
theorem kw_126 : (.code y_Cb_init b_Cb_init 1 none : Cond) ∈ AW := aw_t 21 (by decide +kernel) (by decide +kernel)
theorem kw_127 : (.instanceMethod y_Cb_init : Cond) ∈ AW := aw_t 20 (by decide +kernel) (by decide +kernel)
theorem kw_128 : (.classLink R_De 16 R_Rb : Cond) ∈ AW := aw_t 37 (by decide +kernel) (by decide +kernel)
theorem kw_129 : (.instantiable R_Rb 2 : Cond) ∈ AW := aw_t 38 (by decide +kernel) (by decide +kernel)
theorem kw_130 : (.code y_Rb_init b_Rb_init 1 none : Cond) ∈ AW := aw_t 41 (by decide +kernel) (by decide +kernel)
theorem kw_131 : (.instanceMethod y_Rb_init : Cond) ∈ AW := aw_t 40 (by decide +kernel) (by decide +kernel)
theorem kw_132 : (.classLink R_Cb 9 R_Co : Cond) ∈ AW := aw_t 23 (by decide +kernel) (by decide +kernel)
theorem kw_133 : (.instantiable R_Co 5 : Cond) ∈ AW := aw_t 109 (by decide +kernel) (by decide +kernel)
theorem kw_134 : (.code y_Co_init b_Co_init 5 none : Cond) ∈ AW := aw_t 133 (by decide +kernel) (by decide +kernel)
theorem kw_135 : (.instanceMethod y_Co_init : Cond) ∈ AW := aw_t 132 (by decide +kernel) (by decide +kernel)
theorem kw_136 : (.code y_Cb_workOut b_Cb_workOut 3 (some .long) : Cond) ∈ AW := aw_t 87 (by decide +kernel) (by decide +kernel)
theorem kw_137 : (.methodLink R_Cb 32 y_Cb_workOut : Cond) ∈ AW := aw_t 84 (by decide +kernel) (by decide +kernel)
theorem kw_138 : (.instanceMethod y_Cb_workOut : Cond) ∈ AW := aw_t 86 (by decide +kernel) (by decide +kernel)
theorem kw_139 : (.selects R_Cb y_Cb_workOut y_Cb_workOut : Cond) ∈ AW := aw_s 4 (by decide +kernel) (by decide +kernel)
theorem kw_140 : (.code y_Co_setWord b_Co_setWord 4 none : Cond) ∈ AW := aw_t 118 (by decide +kernel) (by decide +kernel)
theorem kw_141 : (.instanceMethod y_Co_setWord : Cond) ∈ AW := aw_t 117 (by decide +kernel) (by decide +kernel)
theorem kw_142 : (.selects R_Co y_Co_setWord y_Co_setWord : Cond) ∈ AW := aw_s 8 (by decide +kernel) (by decide +kernel)
theorem kw_143 : (.code y_Cb_workOutAgain b_Cb_workOutAgain 6 none : Cond) ∈ AW := aw_t 79 (by decide +kernel) (by decide +kernel)
theorem kw_144 : (.methodLink R_Cb 43 y_Cb_workOutAgain : Cond) ∈ AW := aw_t 76 (by decide +kernel) (by decide +kernel)
theorem kw_145 : (.instanceMethod y_Cb_workOutAgain : Cond) ∈ AW := aw_t 78 (by decide +kernel) (by decide +kernel)
theorem kw_146 : (.selects R_Cb y_Cb_workOutAgain y_Cb_workOutAgain : Cond) ∈ AW := aw_s 2 (by decide +kernel) (by decide +kernel)
theorem kw_147 : (.classLink R_Rb 9 R_Ru : Cond) ∈ AW := aw_t 43 (by decide +kernel) (by decide +kernel)
theorem kw_148 : (.instantiable R_Ru 4 : Cond) ∈ AW := aw_t 166 (by decide +kernel) (by decide +kernel)
theorem kw_149 : (.code y_Ru_init b_Ru_init 5 none : Cond) ∈ AW := aw_t 169 (by decide +kernel) (by decide +kernel)
theorem kw_150 : (.instanceMethod y_Ru_init : Cond) ∈ AW := aw_t 168 (by decide +kernel) (by decide +kernel)
theorem kw_151 : (.code y_Rb_placeFor b_Rb_placeFor 4 (some .int) : Cond) ∈ AW := aw_t 191 (by decide +kernel) (by decide +kernel)
theorem kw_152 : (.methodLink R_Rb 35 y_Rb_placeFor : Cond) ∈ AW := aw_t 188 (by decide +kernel) (by decide +kernel)
theorem kw_153 : (.instanceMethod y_Rb_placeFor : Cond) ∈ AW := aw_t 190 (by decide +kernel) (by decide +kernel)
theorem kw_154 : (.selects R_Rb y_Rb_placeFor y_Rb_placeFor : Cond) ∈ AW := aw_s 12 (by decide +kernel) (by decide +kernel)
theorem kw_155 : (.code y_Cb_setMember b_Cb_setMember 5 (some .boolean) : Cond) ∈ AW := aw_t 70 (by decide +kernel) (by decide +kernel)
theorem kw_156 : (.instanceMethod y_Cb_setMember : Cond) ∈ AW := aw_t 69 (by decide +kernel) (by decide +kernel)
theorem kw_157 : (.selects R_Cb y_Cb_setMember y_Cb_setMember : Cond) ∈ AW := aw_s 0 (by decide +kernel) (by decide +kernel)
theorem kw_158 : (.code y_Cb_canBe b_Cb_canBe 5 (some .boolean) : Cond) ∈ AW := aw_t 126 (by decide +kernel) (by decide +kernel)
theorem kw_159 : (.instanceMethod y_Cb_canBe : Cond) ∈ AW := aw_t 125 (by decide +kernel) (by decide +kernel)
theorem kw_160 : (.selects R_Cb y_Cb_canBe y_Cb_canBe : Cond) ∈ AW := aw_s 9 (by decide +kernel) (by decide +kernel)
theorem kw_161 : (.code y_Cb_add b_Cb_add 7 (some .int) : Cond) ∈ AW := aw_t 130 (by decide +kernel) (by decide +kernel)
theorem kw_162 : (.instanceMethod y_Cb_add : Cond) ∈ AW := aw_t 129 (by decide +kernel) (by decide +kernel)
theorem kw_163 : (.selects R_Cb y_Cb_add y_Cb_add : Cond) ∈ AW := aw_s 10 (by decide +kernel) (by decide +kernel)
theorem kw_164 : (.code y_Rb_add b_Rb_add 7 (some .int) : Cond) ∈ AW := aw_t 164 (by decide +kernel) (by decide +kernel)
theorem kw_165 : (.instanceMethod y_Rb_add : Cond) ∈ AW := aw_t 163 (by decide +kernel) (by decide +kernel)
theorem kw_166 : (.selects R_Rb y_Rb_add y_Rb_add : Cond) ∈ AW := aw_s 11 (by decide +kernel) (by decide +kernel)
theorem kw_167 : (.code y_Rb_remove b_Rb_remove 5 (some .int) : Cond) ∈ AW := aw_t 211 (by decide +kernel) (by decide +kernel)
theorem kw_168 : (.instanceMethod y_Rb_remove : Cond) ∈ AW := aw_t 210 (by decide +kernel) (by decide +kernel)
theorem kw_169 : (.selects R_Rb y_Rb_remove y_Rb_remove : Cond) ∈ AW := aw_s 16 (by decide +kernel) (by decide +kernel)
def gNest : List Cond := [.methodLinkNest R_Co 28 y_De_isBelow "RightDesk", .methodLinkNest R_Cb 25 y_De_isBelow "RightDesk", .methodLinkNest R_Rb 21 y_De_isBelow "RightDesk", .methodLinkNest R_Ru 24 y_Co_word "RightDesk", .methodLinkNest R_Cb 86 y_Co_word "RightDesk", .fieldLinkNest R_Cb 51 "RightDesk$Condition" "kind" "I" "RightDesk", .fieldLinkNest R_Cb 54 "RightDesk$Condition" "a" "I" "RightDesk", .fieldLinkNest R_Cb 65 "RightDesk$Condition" "b" "I" "RightDesk", .fieldLinkNest R_Cb 79 "RightDesk$Condition" "c" "I" "RightDesk", .methodLinkNest R_Cb 68 y_De_versionsFromTo "RightDesk", .methodLinkNest R_Rb 43 y_Ru_word "RightDesk", .fieldLinkNest R_Rb 29 "RightDesk$Rule" "number" "I" "RightDesk", .methodLinkNest R_Rb 39 y_Ru_goesBefore "RightDesk", .fieldLinkNest R_Rb 47 "RightDesk$Rule" "denies" "Z" "RightDesk", .methodLinkNest R_Rb 64 y_Ru_rankBehind "RightDesk", .fieldLinkNest R_De 108 "RightDesk$ConditionBook" "count" "I" "RightDesk", .fieldLinkNest R_De 111 "RightDesk$RuleBook" "count" "I" "RightDesk", .methodLinkNest R_De 112 y_Rb_allowedFrom "RightDesk", .methodLinkNest R_De 39 y_Cb_at "RightDesk", .methodLinkNest R_De 68 y_Co_word "RightDesk", .methodLinkNest R_De 46 y_Rb_placeOf "RightDesk", .methodLinkNest R_De 86 y_Rb_decidedAt "RightDesk", .methodLinkNest R_De 96 y_Rb_turnedAt "RightDesk", .methodLinkNest R_De 99 y_Rb_idleRank "RightDesk", .methodLinkNest R_De 54 y_Rb_deciderOf "RightDesk", .fieldLinkNest R_De 58 "RightDesk$Rule" "number" "I" "RightDesk", .fieldLinkNest R_De 64 "RightDesk$Rule" "denies" "Z" "RightDesk", .methodLinkNest R_De 9 y_Cb_init "RightDesk", .methodLinkNest R_De 18 y_Rb_init "RightDesk", .methodLinkNest R_Cb 29 y_Co_init "RightDesk", .methodLinkNest R_Cb 36 y_Co_setWord "RightDesk", .methodLinkNest R_Rb 32 y_Ru_init "RightDesk", .methodLinkNest R_De 27 y_Cb_setMember "RightDesk", .methodLinkNest R_De 31 y_Cb_canBe "RightDesk", .methodLinkNest R_De 35 y_Cb_add "RightDesk", .methodLinkNest R_De 43 y_Rb_add "RightDesk", .methodLinkNest R_De 50 y_Rb_remove "RightDesk"]
theorem kz_0 : (.methodLinkNest R_Co 28 y_De_isBelow "RightDesk" : Cond) ∈ gNest := List.mem_of_getElem? (i := 0) rfl
theorem kz_1 : (.methodLinkNest R_Cb 25 y_De_isBelow "RightDesk" : Cond) ∈ gNest := List.mem_of_getElem? (i := 1) rfl
theorem kz_2 : (.methodLinkNest R_Rb 21 y_De_isBelow "RightDesk" : Cond) ∈ gNest := List.mem_of_getElem? (i := 2) rfl
theorem kz_3 : (.methodLinkNest R_Ru 24 y_Co_word "RightDesk" : Cond) ∈ gNest := List.mem_of_getElem? (i := 3) rfl
theorem kz_4 : (.methodLinkNest R_Cb 86 y_Co_word "RightDesk" : Cond) ∈ gNest := List.mem_of_getElem? (i := 4) rfl
theorem kz_5 : (.fieldLinkNest R_Cb 51 "RightDesk$Condition" "kind" "I" "RightDesk" : Cond) ∈ gNest := List.mem_of_getElem? (i := 5) rfl
theorem kz_6 : (.fieldLinkNest R_Cb 54 "RightDesk$Condition" "a" "I" "RightDesk" : Cond) ∈ gNest := List.mem_of_getElem? (i := 6) rfl
theorem kz_7 : (.fieldLinkNest R_Cb 65 "RightDesk$Condition" "b" "I" "RightDesk" : Cond) ∈ gNest := List.mem_of_getElem? (i := 7) rfl
theorem kz_8 : (.fieldLinkNest R_Cb 79 "RightDesk$Condition" "c" "I" "RightDesk" : Cond) ∈ gNest := List.mem_of_getElem? (i := 8) rfl
theorem kz_9 : (.methodLinkNest R_Cb 68 y_De_versionsFromTo "RightDesk" : Cond) ∈ gNest := List.mem_of_getElem? (i := 9) rfl
theorem kz_10 : (.methodLinkNest R_Rb 43 y_Ru_word "RightDesk" : Cond) ∈ gNest := List.mem_of_getElem? (i := 10) rfl
theorem kz_11 : (.fieldLinkNest R_Rb 29 "RightDesk$Rule" "number" "I" "RightDesk" : Cond) ∈ gNest := List.mem_of_getElem? (i := 11) rfl
theorem kz_12 : (.methodLinkNest R_Rb 39 y_Ru_goesBefore "RightDesk" : Cond) ∈ gNest := List.mem_of_getElem? (i := 12) rfl
theorem kz_13 : (.fieldLinkNest R_Rb 47 "RightDesk$Rule" "denies" "Z" "RightDesk" : Cond) ∈ gNest := List.mem_of_getElem? (i := 13) rfl
theorem kz_14 : (.methodLinkNest R_Rb 64 y_Ru_rankBehind "RightDesk" : Cond) ∈ gNest := List.mem_of_getElem? (i := 14) rfl
theorem kz_15 : (.fieldLinkNest R_De 108 "RightDesk$ConditionBook" "count" "I" "RightDesk" : Cond) ∈ gNest := List.mem_of_getElem? (i := 15) rfl
theorem kz_16 : (.fieldLinkNest R_De 111 "RightDesk$RuleBook" "count" "I" "RightDesk" : Cond) ∈ gNest := List.mem_of_getElem? (i := 16) rfl
theorem kz_17 : (.methodLinkNest R_De 112 y_Rb_allowedFrom "RightDesk" : Cond) ∈ gNest := List.mem_of_getElem? (i := 17) rfl
theorem kz_18 : (.methodLinkNest R_De 39 y_Cb_at "RightDesk" : Cond) ∈ gNest := List.mem_of_getElem? (i := 18) rfl
theorem kz_19 : (.methodLinkNest R_De 68 y_Co_word "RightDesk" : Cond) ∈ gNest := List.mem_of_getElem? (i := 19) rfl
theorem kz_20 : (.methodLinkNest R_De 46 y_Rb_placeOf "RightDesk" : Cond) ∈ gNest := List.mem_of_getElem? (i := 20) rfl
theorem kz_21 : (.methodLinkNest R_De 86 y_Rb_decidedAt "RightDesk" : Cond) ∈ gNest := List.mem_of_getElem? (i := 21) rfl
theorem kz_22 : (.methodLinkNest R_De 96 y_Rb_turnedAt "RightDesk" : Cond) ∈ gNest := List.mem_of_getElem? (i := 22) rfl
theorem kz_23 : (.methodLinkNest R_De 99 y_Rb_idleRank "RightDesk" : Cond) ∈ gNest := List.mem_of_getElem? (i := 23) rfl
theorem kz_24 : (.methodLinkNest R_De 54 y_Rb_deciderOf "RightDesk" : Cond) ∈ gNest := List.mem_of_getElem? (i := 24) rfl
theorem kz_25 : (.fieldLinkNest R_De 58 "RightDesk$Rule" "number" "I" "RightDesk" : Cond) ∈ gNest := List.mem_of_getElem? (i := 25) rfl
theorem kz_26 : (.fieldLinkNest R_De 64 "RightDesk$Rule" "denies" "Z" "RightDesk" : Cond) ∈ gNest := List.mem_of_getElem? (i := 26) rfl
theorem kz_27 : (.methodLinkNest R_De 9 y_Cb_init "RightDesk" : Cond) ∈ gNest := List.mem_of_getElem? (i := 27) rfl
theorem kz_28 : (.methodLinkNest R_De 18 y_Rb_init "RightDesk" : Cond) ∈ gNest := List.mem_of_getElem? (i := 28) rfl
theorem kz_29 : (.methodLinkNest R_Cb 29 y_Co_init "RightDesk" : Cond) ∈ gNest := List.mem_of_getElem? (i := 29) rfl
theorem kz_30 : (.methodLinkNest R_Cb 36 y_Co_setWord "RightDesk" : Cond) ∈ gNest := List.mem_of_getElem? (i := 30) rfl
theorem kz_31 : (.methodLinkNest R_Rb 32 y_Ru_init "RightDesk" : Cond) ∈ gNest := List.mem_of_getElem? (i := 31) rfl
theorem kz_32 : (.methodLinkNest R_De 27 y_Cb_setMember "RightDesk" : Cond) ∈ gNest := List.mem_of_getElem? (i := 32) rfl
theorem kz_33 : (.methodLinkNest R_De 31 y_Cb_canBe "RightDesk" : Cond) ∈ gNest := List.mem_of_getElem? (i := 33) rfl
theorem kz_34 : (.methodLinkNest R_De 35 y_Cb_add "RightDesk" : Cond) ∈ gNest := List.mem_of_getElem? (i := 34) rfl
theorem kz_35 : (.methodLinkNest R_De 43 y_Rb_add "RightDesk" : Cond) ∈ gNest := List.mem_of_getElem? (i := 35) rfl
theorem kz_36 : (.methodLinkNest R_De 50 y_Rb_remove "RightDesk" : Cond) ∈ gNest := List.mem_of_getElem? (i := 36) rfl
theorem gNest_tbl : ∀ w ∈ gNest, w ∈ tables_1 := by
  intro w hw
  simp only [gNest, List.mem_cons, List.not_mem_nil, or_false] at hw
  rcases hw with rfl | rfl | rfl | rfl | rfl | rfl | rfl | rfl | rfl | rfl | rfl | rfl | rfl | rfl | rfl | rfl | rfl | rfl | rfl | rfl | rfl | rfl | rfl | rfl | rfl | rfl | rfl | rfl | rfl | rfl | rfl | rfl | rfl | rfl | rfl | rfl | rfl
  · exact List.mem_of_getElem? (i := 111) (by decide +kernel)
  · exact List.mem_of_getElem? (i := 75) (by decide +kernel)
  · exact List.mem_of_getElem? (i := 165) (by decide +kernel)
  · exact List.mem_of_getElem? (i := 224) (by decide +kernel)
  · exact List.mem_of_getElem? (i := 106) (by decide +kernel)
  · exact List.mem_of_getElem? (i := 136) (by decide +kernel)
  · exact List.mem_of_getElem? (i := 138) (by decide +kernel)
  · exact List.mem_of_getElem? (i := 140) (by decide +kernel)
  · exact List.mem_of_getElem? (i := 142) (by decide +kernel)
  · exact List.mem_of_getElem? (i := 94) (by decide +kernel)
  · exact List.mem_of_getElem? (i := 220) (by decide +kernel)
  · exact List.mem_of_getElem? (i := 177) (by decide +kernel)
  · exact List.mem_of_getElem? (i := 196) (by decide +kernel)
  · exact List.mem_of_getElem? (i := 174) (by decide +kernel)
  · exact List.mem_of_getElem? (i := 292) (by decide +kernel)
  · exact List.mem_of_getElem? (i := 28) (by decide +kernel)
  · exact List.mem_of_getElem? (i := 47) (by decide +kernel)
  · exact List.mem_of_getElem? (i := 270) (by decide +kernel)
  · exact List.mem_of_getElem? (i := 160) (by decide +kernel)
  · exact List.mem_of_getElem? (i := 229) (by decide +kernel)
  · exact List.mem_of_getElem? (i := 204) (by decide +kernel)
  · exact List.mem_of_getElem? (i := 252) (by decide +kernel)
  · exact List.mem_of_getElem? (i := 278) (by decide +kernel)
  · exact List.mem_of_getElem? (i := 288) (by decide +kernel)
  · exact List.mem_of_getElem? (i := 216) (by decide +kernel)
  · exact List.mem_of_getElem? (i := 178) (by decide +kernel)
  · exact List.mem_of_getElem? (i := 173) (by decide +kernel)
  · exact List.mem_of_getElem? (i := 19) (by decide +kernel)
  · exact List.mem_of_getElem? (i := 39) (by decide +kernel)
  · exact List.mem_of_getElem? (i := 131) (by decide +kernel)
  · exact List.mem_of_getElem? (i := 115) (by decide +kernel)
  · exact List.mem_of_getElem? (i := 167) (by decide +kernel)
  · exact List.mem_of_getElem? (i := 67) (by decide +kernel)
  · exact List.mem_of_getElem? (i := 123) (by decide +kernel)
  · exact List.mem_of_getElem? (i := 127) (by decide +kernel)
  · exact List.mem_of_getElem? (i := 161) (by decide +kernel)
  · exact List.mem_of_getElem? (i := 208) (by decide +kernel)
end
section
/-! The world: every cell at an address of a list L, with what f says of its address. Classes and array classes by one G. -/
/-- numbers of the classes and their slots, and the classes of the arrays: long, boolean, Condition[], Rule[], int -/
abbrev GG : Type := va_G × (Nat → ClassId)
def gTys (G : GG) : List (ClassId × FieldType) := [(G.2 0, .long), (G.2 1, .boolean), (G.2 2, .object "RightDesk$Condition"), (G.2 3, .object "RightDesk$Rule"), (G.2 4, .int)]
theorem gAW {c : Cond} (h : c ∈ AW) : GoodIn AW (c :: AW) := fun w hw => by
  have hw' : w ∈ AW := by
    rcases List.mem_cons.mp hw with e | h2
    · rw [e]; exact h
    · exact h2
  exact ⟨hw', good_of_word (List.mem_filter.mp hw').2⟩
theorem gLaw {c : Cond} (h : c ∈ AW) : GoodIn lw_tbl (c :: AW) := fun w hw => by
  have hw' : w ∈ AW := by
    rcases List.mem_cons.mp hw with e | h2
    · rw [e]; exact h
    · exact h2
  exact ⟨(List.mem_filter.mp hw').1, good_of_word (List.mem_filter.mp hw').2⟩
def isNest : Cond → Bool
  | .fieldLinkNest _ _ _ _ _ _ => true
  | .methodLinkNest _ _ _ _ => true
  | _ => false
theorem nest_warm {w : Cond} (h : isNest w = true) {s U : State} (hW : s.WarmedH U.vm) (hZ : va_Nw w s) : va_Nw w U := by
  cases w with
  | fieldLinkNest a i b n d k => exact va_Nw.warmF hW hZ
  | methodLinkNest a i x k => exact va_Nw.warmM hW hZ
  | _ => exact absurd h (by simp [isNest])
theorem nest_tab {w : Cond} (h : isNest w = true) : w.onTables = true := by
  cases w with
  | fieldLinkNest a i b n d k => rfl
  | methodLinkNest a i x k => rfl
  | _ => exact absurd h (by simp [isNest])
theorem gNest_all : ∀ w ∈ gNest, isNest w = true := by decide +kernel
def KK (G : GG) (U : State) : Prop := va_K G.1 vwCl (gTys G) U ∧ (∀ w ∈ gNest, va_Nw w U) ∧ va_AO "RightDesk$Condition" U ∧ va_AO "RightDesk$Rule" U
theorem KK.warm {G : GG} {s U : State} (hW : s.WarmedH U.vm) (h : KK G s) : KK G U :=
  ⟨va_K.moved hW.alike h.1, fun w hw => nest_warm (gNest_all w hw) hW (h.2.1 w hw), va_AO.moved hW.alike h.2.2.1, va_AO.moved hW.alike h.2.2.2⟩
theorem KK.call {G : GG} {U : State} {g : JFrame} {mk : MethodId} {a : Array Value} (h : KK G U) : KK G (U.calling g mk a) :=
  ⟨va_K.moved (u := U) (U := U.calling g mk a) (Vm.Alike.refl U.vm) h.1, fun w hw => va_Nw.same (nest_tab (gNest_all w hw)) (u := U) (U := U.calling g mk a) rfl (h.2.1 w hw), va_AO.moved (u := U) (U := U.calling g mk a) (Vm.Alike.refl U.vm) h.2.2.1, va_AO.moved (u := U) (U := U.calling g mk a) (Vm.Alike.refl U.vm) h.2.2.2⟩
/-- a contract's world -/
def PW (G : GG) (L : List Nat) (f : Nat → va_E) (U : State) : Prop := va_P G.1 vwCl (va_pl L f) U.heap ∧ KK G U
/-- what lies at an address -/
def Lk (L : List Nat) (f : Nat → va_E) (a : Nat) (e : va_E) : Prop := a ∈ L ∧ f a = e
theorem pl_o {D : va_G} {cl : List vw_C} {L : List Nat} {f : Nat → va_E} {H : Heap} {a : Nat} {e : va_E} (hP : va_P D cl (va_pl L f) H) (h : Lk L f a e) : va_P D cl [(a, e)] H := by
  obtain ⟨k, hk⟩ := va_pl_get (X := []) (f := f) h.1
  have hk : (va_pl L f)[k]? = some (a, f a) := hk
  rw [h.2] at hk
  intro j q hq
  match j, hq with
  | 0, hq => cases hq; exact hP k _ hk
  | j + 1, hq => simp at hq
theorem pw_preS {G : GG} {L : List Nat} {f : Nat → va_E} {H : Heap} {s : State} {As : List Value} (hP : va_P G.1 vwCl (va_pl L f) H) (hK : KK G s) : PreS s H (va_Pc As (PW G L f)) As :=
  ⟨fun a U g mk q => ⟨q.1, q.2.1, KK.call q.2.2⟩, fun U hU hW => ⟨rfl, by rw [hU]; exact hP, KK.warm hW hK⟩⟩
theorem pw_preV {G : GG} {L : List Nat} {f : Nat → va_E} {H : Heap} {s : State} {b ci : Nat} {C : String} {T : u_T} {N : Nat} {fs As : List Value} (hP : va_P G.1 vwCl (va_pl L f) H) (hK : KK G s) (h : Lk L f b (.inr (ci, fs))) (hc : vwCl[ci]? = some (C, T, N)) : PreV s H C b (va_Pc (.ref b :: As) (PW G L f)) As :=
  ⟨fun a U g mk q => ⟨q.1, q.2.1, KK.call q.2.2⟩, va_recv hK.1 (pl_o hP h) hc (q0 := 0) rfl, fun U hU hW => ⟨rfl, by rw [hU]; exact hP, KK.warm hW hK⟩⟩
/-- rooms by depth -/
def RM (d : Nat) : Room := { frames := d, cells := 0, slots := 0, locals := 32 * d }
section XV
variable {p : Program} {l : Launch} {e : Env} {R : Room} {s : State} {m : MethodId} {args : Array Value} {below : List Frame} {meth : Method} {c : Code} {H : Heap} {locs : List Loc} {cells slots : Nat} {Q : State → Prop}
variable {cc : ByteArray} {pc : Nat} {ls : Array Slot} {rest : List Value} {D : va_G} {cl : List vw_C} {a : Nat} {tys : List (ClassId × FieldType)} {ws : va_W}
theorem xv_I {x y : Int32} (h : x = y) (k : W p l e R s m args below meth c H locs cells slots Q (F0 m pc ls (.int y :: rest))) : W p l e R s m args below meth c H locs cells slots Q (F0 m pc ls (.int x :: rest)) := by rw [h]; exact k
theorem xv_J {x y : Int64} (h : x = y) (k : W p l e R s m args below meth c H locs cells slots Q (F0 m pc ls (.long y :: rest))) : W p l e R s m args below meth c H locs cells slots Q (F0 m pc ls (.long x :: rest)) := by rw [h]; exact k
theorem xv_Q {x y : Option Nat} (h : x = y) (k : W p l e R s m args below meth c H locs cells slots Q (F0 m pc ls (va_rf y :: rest))) : W p l e R s m args below meth c H locs cells slots Q (F0 m pc ls (va_rf x :: rest)) := by rw [h]; exact k
theorem xv_R {x : Option Nat} {a : Nat} (h : x = some a) (k : W p l e R s m args below meth c H locs cells slots Q (F0 m pc ls (.ref a :: rest))) : W p l e R s m args below meth c H locs cells slots Q (F0 m pc ls (va_rf x :: rest)) := by rw [h]; exact k
theorem xv_N {x : Option Nat} (h : x = none) (k : W p l e R s m args below meth c H locs cells slots Q (F0 m pc ls (.null :: rest))) : W p l e R s m args below meth c H locs cells slots Q (F0 m pc ls (va_rf x :: rest)) := by rw [h]; exact k
theorem xl_lald (hexec : p.tables.exec = Jvm.exec) (hb : c.code = cc) (hK : va_K D cl tys s) (hP : va_P D cl ws H) (q0 t0 : Nat) {cA : ClassId} {n : Nat} {f : Nat → Int64} (ha : ws[q0]? = some (a, .inl (cA, n, .inr (.inl f)))) (ht : tys[t0]? = some (cA, .long)) {i : Nat} (hi : i < n) (hn : n < 2 ^ 31) (hdg : decode cc pc = .ok (.laload, 1))
    (kk : W p l e R s m args below meth c H locs cells slots Q (F0 m (pc + 1) ls (.long (f i) :: rest))) : W p l e R s m args below meth c H locs cells slots Q (F0 m pc ls (.int (nI i) :: .ref a :: rest)) := by
  refine va_lald hexec hb hK hP q0 t0 ha ht (vp_in_nI hi hn) hdg ?_
  rw [nI_clamp (by omega)]
  exact kk
theorem xl_iald (hexec : p.tables.exec = Jvm.exec) (hb : c.code = cc) (hK : va_K D cl tys s) (hP : va_P D cl ws H) (q0 t0 : Nat) {cA : ClassId} {n : Nat} {f : Nat → Int32} (ha : ws[q0]? = some (a, .inl (cA, n, .inl f))) (ht : tys[t0]? = some (cA, .int)) {i : Nat} (hi : i < n) (hn : n < 2 ^ 31) (hdg : decode cc pc = .ok (.iaload, 1))
    (kk : W p l e R s m args below meth c H locs cells slots Q (F0 m (pc + 1) ls (.int (f i) :: rest))) : W p l e R s m args below meth c H locs cells slots Q (F0 m pc ls (.int (nI i) :: .ref a :: rest)) := by
  refine va_iald hexec hb hK hP q0 t0 ha ht (vp_in_nI hi hn) hdg ?_
  rw [nI_clamp (by omega)]
  exact kk
theorem xl_zald (hexec : p.tables.exec = Jvm.exec) (hb : c.code = cc) (hK : va_K D cl tys s) (hP : va_P D cl ws H) (q0 t0 : Nat) {cA : ClassId} {n : Nat} {f : Nat → Int32} (ha : ws[q0]? = some (a, .inl (cA, n, .inl f))) (ht : tys[t0]? = some (cA, .boolean)) {i : Nat} (hi : i < n) (hn : n < 2 ^ 31) (hdg : decode cc pc = .ok (.baload, 1))
    (kk : W p l e R s m args below meth c H locs cells slots Q (F0 m (pc + 1) ls (.int (f i) :: rest))) : W p l e R s m args below meth c H locs cells slots Q (F0 m pc ls (.int (nI i) :: .ref a :: rest)) := by
  refine va_zald hexec hb hK hP q0 t0 ha ht (vp_in_nI hi hn) hdg ?_
  rw [nI_clamp (by omega)]
  exact kk
theorem xl_aldq (hexec : p.tables.exec = Jvm.exec) (hb : c.code = cc) (hK : va_K D cl tys s) (hP : va_P D cl ws H) (q0 t0 : Nat) {cA : ClassId} {C : String} {n : Nat} {f : Nat → Option Nat} (ha : ws[q0]? = some (a, .inl (cA, n, .inr (.inr (.inr (.inr f)))))) (ht : tys[t0]? = some (cA, .object C)) {i : Nat} (hi : i < n) (hn : n < 2 ^ 31) (hdg : decode cc pc = .ok (.aaload, 1))
    (kk : W p l e R s m args below meth c H locs cells slots Q (F0 m (pc + 1) ls (va_rf (f i) :: rest))) : W p l e R s m args below meth c H locs cells slots Q (F0 m pc ls (.int (nI i) :: .ref a :: rest)) := by
  refine va_aldq hexec hb hK hP q0 t0 ha ht (vp_in_nI hi hn) hdg ?_
  rw [nI_clamp (by omega)]
  exact kk
end XV
/-! truth values, below -/
def bI (b : Bool) : Int32 := if b = true then nI 1 else nI 0
theorem bI_t : bI true = nI 1 := rfl
theorem bI_f : bI false = nI 0 := rfl
theorem bI_0 {b : Bool} : bI b = 0 ↔ b = false := by cases b <;> decide
theorem bI_nar (b : Bool) : narrow .boolean (.int (bI b)) = .int (bI b) := by cases b <;> rfl
theorem bI_inj {a b : Bool} (h : bI a = bI b) : a = b := by cases a <;> cases b <;> first | rfl | exact absurd h (by decide)
def blw (x y : Int32) : Bool := decide (¬ x < 0 ∧ x < y)
theorem blw_t {x y : Int32} (h0 : ¬ x < 0) (h : x < y) : blw x y = true := decide_eq_true ⟨h0, h⟩
theorem blw_f0 {x y : Int32} (h : x < 0) : blw x y = false := decide_eq_false (fun q => q.1 h)
theorem blw_f1 {x y : Int32} (h : ¬ x < y) : blw x y = false := decide_eq_false (fun q => h q.2)
theorem blw_of {x : Int32} {n : Nat} (hn : n < 2 ^ 31) (h : blw x (nI n) = true) : ∃ j, j < n ∧ x = nI j := by
  obtain ⟨h0, h1⟩ := of_decide_eq_true h
  obtain ⟨j, hj, e⟩ := nI_of h0
  rw [e] at h1
  exact ⟨j, (nI_ltI hj hn).mp h1, e⟩
theorem blw_nI {i n : Nat} (hn : n < 2 ^ 31) (hi : i < 2 ^ 31) : blw (nI i) (nI n) = decide (i < n) := by
  by_cases h : i < n
  · rw [blw_t (nI_pos hi) (nI_lt h hn), decide_eq_true h]
  · rw [blw_f1 (nI_nlt (by omega) hi), decide_eq_false h]
/-! Writes: what lies where, behind a store; new cells; calls that write. -/
theorem Lk.ne {L : List Nat} {f : Nat → va_E} {a b : Nat} {e1 e2 : va_E} (h1 : Lk L f a e1) (h2 : Lk L f b e2) (h : e1 ≠ e2) : a ≠ b := fun q => h (by rw [← h1.2, ← h2.2, q])
theorem Lk.neOA {L : List Nat} {f : Nat → va_E} {a b : Nat} {x : Nat × List Value} {y : ClassId × vp_A} (h1 : Lk L f a (.inr x)) (h2 : Lk L f b (.inl y)) : a ≠ b := h1.ne h2 (fun q => by cases q)
theorem Lk.neOO {L : List Nat} {f : Nat → va_E} {a b i j : Nat} {x y : List Value} (h1 : Lk L f a (.inr (i, x))) (h2 : Lk L f b (.inr (j, y))) (h : i ≠ j) : a ≠ b := h1.ne h2 (fun q => h (congrArg Prod.fst (Sum.inr.inj q)))
theorem Lk.neAA {L : List Nat} {f : Nat → va_E} {a b n1 n2 : Nat} {c1 c2 : ClassId} {x y : (Nat → Int32) ⊕ (Nat → Int64) ⊕ (Nat → UInt32) ⊕ (Nat → UInt64) ⊕ (Nat → Option Nat)} (h1 : Lk L f a (.inl (c1, n1, x))) (h2 : Lk L f b (.inl (c2, n2, y))) (h : n1 ≠ n2) : a ≠ b := h1.ne h2 (fun q => h (congrArg (fun z : ClassId × vp_A => z.2.1) (Sum.inl.inj q)))
theorem Lk.up {L : List Nat} {f : Nat → va_E} {a b : Nat} {e e' : va_E} (h : Lk L f a e) (hn : a ≠ b) : Lk L (va_up f b e') a e := ⟨h.1, by rw [va_up_ne f e' hn]; exact h.2⟩
theorem Lk.set {L : List Nat} {f : Nat → va_E} {b : Nat} {e e' : va_E} (h : Lk L f b e) : Lk L (va_up f b e') b e' := ⟨h.1, va_up_self f b e'⟩
theorem Lk.push {L : List Nat} {f : Nat → va_E} {a q : Nat} {e e' : va_E} (h : Lk L f a e) (hq : q ∉ L) : Lk (L ++ [q]) (va_up f q e') a e := ⟨List.mem_append_left _ h.1, by
  have hn : a ≠ q := fun z => hq (z ▸ h.1)
  rw [va_up_ne f e' hn]
  exact h.2⟩
theorem Lk.new {L : List Nat} {f : Nat → va_E} {q : Nat} {e : va_E} : Lk (L ++ [q]) (va_up f q e) q e := ⟨List.mem_append_right _ List.mem_cons_self, va_up_self f q e⟩
theorem nd_idx {L : List Nat} (hN : L.Nodup) {i j b : Nat} (hi : L[i]? = some b) (hj : L[j]? = some b) : i = j := by
  have hl := (List.getElem?_eq_some_iff.mp hi).1
  exact (List.getElem?_inj hl hN).mp (hi.trans hj.symm)
theorem pl_D {L : List Nat} {f : Nat → va_E} {A : Nat → Prop} (hN : L.Nodup) (hA : ∀ a ∈ L, A a) : va_D A (va_pl L f) := by
  refine ⟨fun i j x y hx hy e => ?_, fun k q hk => ?_⟩
  · simp only [va_pl, List.getElem?_map] at hx hy
    cases hi : L[i]? with
    | none => rw [hi] at hx; cases hx
    | some b =>
      cases hj : L[j]? with
      | none => rw [hj] at hy; cases hy
      | some d =>
        rw [hi] at hx
        rw [hj] at hy
        cases hx
        cases hy
        have e : b = d := e
        subst e
        exact nd_idx hN hi hj
  · simp only [va_pl, List.getElem?_map] at hk
    cases hi : L[k]? with
    | none => rw [hi] at hk; cases hk
    | some b =>
      rw [hi] at hk
      cases hk
      exact hA b (List.mem_of_getElem? hi)
theorem pl_nd {L : List Nat} {f : Nat → va_E} {A : Nat → Prop} (h : va_D A (va_pl L f)) : L.Nodup := by
  rw [List.nodup_iff_pairwise_ne, List.pairwise_iff_getElem]
  intro i j hi hj hij e
  have a1 : (va_pl L f)[i]? = some (L[i], f L[i]) := by simp [va_pl, List.getElem?_map, List.getElem?_eq_getElem hi]
  have a2 : (va_pl L f)[j]? = some (L[j], f L[j]) := by simp [va_pl, List.getElem?_map, List.getElem?_eq_getElem hj]
  have := h.1 i j _ _ a1 a2 e
  omega
theorem pl_at {L : List Nat} {f : Nat → va_E} {a : Nat} {e : va_E} (h : Lk L f a e) : ∃ k : Nat, (va_pl L f)[k]? = some (a, e) := by
  obtain ⟨k, hk⟩ := va_pl_get (X := []) (f := f) h.1
  exact ⟨k, by rw [← h.2]; exact hk⟩
theorem pl_set {A : Nat → Prop} {L : List Nat} {f : Nat → va_E} {a k : Nat} {e0 e : va_E} (hD : va_D A (va_pl L f)) (h : Lk L f a e0) (hk : (va_pl L f)[k]? = some (a, e0)) : (va_pl L f).set k (a, e) = va_pl L (va_up f a e) :=
  va_pl_set (X := []) hD h.1 (by rw [h.2]; exact hk)
section XW
variable {p : Program} {l : Launch} {e : Env} {R : Room} {s : State} {m : MethodId} {args : Array Value} {below : List Frame} {meth : Method} {c : Code} {H : Heap} {locs : List Loc} {cells slots : Nat} {Q : State → Prop}
variable {cc : ByteArray} {pc : Nat} {ls : Array Slot} {rest : List Value} {D : va_G} {cl : List vw_C} {A : Nat → Prop} {a : Nat} {tys : List (ClassId × FieldType)} {H0 : Heap} {L : List Nat} {f : Nat → va_E}
theorem xw_put (hexec : p.tables.exec = Jvm.exec) (hb : c.code = cc) {own ref C : String} {T : u_T} {N ci index : Nat} {Ts : List Cond} (hts : ∀ w ∈ Ts, w.before args s = true) (hin : ∀ w ∈ u_ws C T N, w ∈ Ts) (ty0 : Nat → FieldType) (hty : ∀ k, k < N → parseFieldDescriptor (T k).2.2.1 = some (ty0 k)) (hnm : ∀ a, a < N → ∀ b, b < N → a ≠ b → (T a).2.1 ≠ (T b).2.1) (hown : s.vm.findClass own = some m.cls) (hK : va_K D cl tys s) (hP : va_P D cl (va_pl L f) H) (hD : va_D A (va_pl L f)) (hS0 : va_S A H0 H locs) {fs : List Value} (h : Lk L f a (.inr (ci, fs))) (hc : cl[ci]? = some (C, T, N)) (k : Nat) (hk : k < N) (hlink : (Cond.fieldLink own index ref (T k).2.1 (T k).2.2.1).before args s = true) (hsame : ∀ x, s.fieldFound? (T k).1 (T k).2.1 (T k).2.2.1 = some x → s.fieldFound? ref (T k).2.1 (T k).2.2.1 = some x) (hfin : (T k).2.2.2 = false) {ty : FieldType} {v : Value} (hd : parseFieldDescriptor (T k).2.2.1 = some ty) (hn : narrow ty v = v) (hfit : fits ty v = true) (hl : k < fs.length)
    (hdg : decode cc pc = .ok (.putfield index, 3)) {fs' : List Value} (hfs : fs.set k v = fs') (kk : ∀ (H1 : Heap) (locs1 : List Loc), va_P D cl (va_pl L (va_up f a (.inr (ci, fs')))) H1 → va_D A (va_pl L (va_up f a (.inr (ci, fs')))) → va_S A H0 H1 locs1 → W p l e R s m args below meth c H1 locs1 cells slots Q (F0 m (pc + 3) ls rest)) : W p l e R s m args below meth c H locs cells slots Q (F0 m pc ls (v :: .ref a :: rest)) := by
  subst hfs
  obtain ⟨i, hi⟩ := pl_at h
  refine va_put hexec hb hts hin ty0 hty hnm hown hK hP hD hS0 i hi hc k hk hlink hsame hfin hd hn hfit hl hdg (fun H1 locs1 h1 h2 h3 => ?_)
  rw [pl_set hD h hi] at h1 h2
  exact kk H1 locs1 h1 h2 h3
theorem xw_putN (hexec : p.tables.exec = Jvm.exec) (hb : c.code = cc) {own ref C host : String} {T : u_T} {N ci index : Nat} {Ts : List Cond} (hts : ∀ w ∈ Ts, w.before args s = true) (hin : ∀ w ∈ u_ws C T N, w ∈ Ts) (ty0 : Nat → FieldType) (hty : ∀ k, k < N → parseFieldDescriptor (T k).2.2.1 = some (ty0 k)) (hnm : ∀ a, a < N → ∀ b, b < N → a ≠ b → (T a).2.1 ≠ (T b).2.1) (hown : s.vm.findClass own = some m.cls) (hK : va_K D cl tys s) (hP : va_P D cl (va_pl L f) H) (hD : va_D A (va_pl L f)) (hS0 : va_S A H0 H locs) {fs : List Value} (h : Lk L f a (.inr (ci, fs))) (hc : cl[ci]? = some (C, T, N)) (k : Nat) (hk : k < N) (hlink : (Cond.fieldLinkNest own index ref (T k).2.1 (T k).2.2.1 host).before args s = true) (hsame : ∀ x, s.fieldFound? (T k).1 (T k).2.1 (T k).2.2.1 = some x → s.fieldFound? ref (T k).2.1 (T k).2.2.1 = some x) (hfin : (T k).2.2.2 = false) {ty : FieldType} {v : Value} (hd : parseFieldDescriptor (T k).2.2.1 = some ty) (hn : narrow ty v = v) (hfit : fits ty v = true) (hl : k < fs.length)
    (hdg : decode cc pc = .ok (.putfield index, 3)) {fs' : List Value} (hfs : fs.set k v = fs') (kk : ∀ (H1 : Heap) (locs1 : List Loc), va_P D cl (va_pl L (va_up f a (.inr (ci, fs')))) H1 → va_D A (va_pl L (va_up f a (.inr (ci, fs')))) → va_S A H0 H1 locs1 → W p l e R s m args below meth c H1 locs1 cells slots Q (F0 m (pc + 3) ls rest)) : W p l e R s m args below meth c H locs cells slots Q (F0 m pc ls (v :: .ref a :: rest)) := by
  subst hfs
  obtain ⟨i, hi⟩ := pl_at h
  refine va_putN hexec hb hts hin ty0 hty hnm hown hK hP hD hS0 i hi hc k hk hlink hsame hfin hd hn hfit hl hdg (fun H1 locs1 h1 h2 h3 => ?_)
  rw [pl_set hD h hi] at h1 h2
  exact kk H1 locs1 h1 h2 h3
theorem xw_putF (hexec : p.tables.exec = Jvm.exec) (hb : c.code = cc) {own ref C : String} {T : u_T} {N ci index : Nat} {Ts : List Cond} (hts : ∀ w ∈ Ts, w.before args s = true) (hin : ∀ w ∈ u_ws C T N, w ∈ Ts) (ty0 : Nat → FieldType) (hty : ∀ k, k < N → parseFieldDescriptor (T k).2.2.1 = some (ty0 k)) (hnm : ∀ a, a < N → ∀ b, b < N → a ≠ b → (T a).2.1 ≠ (T b).2.1) (hown : s.vm.findClass own = some m.cls) (hK : va_K D cl tys s) (hP : va_P D cl (va_pl L f) H) (hD : va_D A (va_pl L f)) (hS0 : va_S A H0 H locs) {fs : List Value} (h : Lk L f a (.inr (ci, fs))) (hc : cl[ci]? = some (C, T, N)) (k : Nat) (hk : k < N) (hlink : (Cond.fieldLink own index ref (T k).2.1 (T k).2.2.1).before args s = true) (hsame : ∀ x, s.fieldFound? (T k).1 (T k).2.1 (T k).2.2.1 = some x → s.fieldFound? ref (T k).2.1 (T k).2.2.1 = some x) (hfin : (T k).2.2.2 = true) (hin2 : meth.name = "<init>") (hdecl : (T k).1 = own) {ty : FieldType} {v : Value} (hd : parseFieldDescriptor (T k).2.2.1 = some ty) (hn : narrow ty v = v) (hfit : fits ty v = true) (hl : k < fs.length)
    (hdg : decode cc pc = .ok (.putfield index, 3)) {fs' : List Value} (hfs : fs.set k v = fs') (kk : ∀ (H1 : Heap) (locs1 : List Loc), va_P D cl (va_pl L (va_up f a (.inr (ci, fs')))) H1 → va_D A (va_pl L (va_up f a (.inr (ci, fs')))) → va_S A H0 H1 locs1 → W p l e R s m args below meth c H1 locs1 cells slots Q (F0 m (pc + 3) ls rest)) : W p l e R s m args below meth c H locs cells slots Q (F0 m pc ls (v :: .ref a :: rest)) := by
  subst hfs
  obtain ⟨i, hi⟩ := pl_at h
  refine va_putF hexec hb hts hin ty0 hty hnm hown hK hP hD hS0 i hi hc k hk hlink hsame hfin hin2 hdecl hd hn hfit hl hdg (fun H1 locs1 h1 h2 h3 => ?_)
  rw [pl_set hD h hi] at h1 h2
  exact kk H1 locs1 h1 h2 h3
theorem xw_last (hexec : p.tables.exec = Jvm.exec) (hb : c.code = cc) (hK : va_K D cl tys s) (hP : va_P D cl (va_pl L f) H) (hD : va_D A (va_pl L f)) (hS : va_S A H0 H locs) (t0 : Nat) {cA : ClassId} {n : Nat} {g : Nat → Int64} (h : Lk L f a (.inl (cA, n, .inr (.inl g)))) (ht : tys[t0]? = some (cA, .long)) {i : Nat} {x : Int64} (hi : i < n) (hn : n < 2 ^ 31) (hdg : decode cc pc = .ok (.lastore, 1))
    (kk : ∀ (H1 : Heap) (locs1 : List Loc), va_P D cl (va_pl L (va_up f a (.inl (cA, n, .inr (.inl (vp_updL g i x)))))) H1 → va_D A (va_pl L (va_up f a (.inl (cA, n, .inr (.inl (vp_updL g i x)))))) → va_S A H0 H1 locs1 → W p l e R s m args below meth c H1 locs1 cells slots Q (F0 m (pc + 1) ls rest)) : W p l e R s m args below meth c H locs cells slots Q (F0 m pc ls (.long x :: .int (nI i) :: .ref a :: rest)) := by
  obtain ⟨j, hj⟩ := pl_at h
  refine va_last hexec hb hK hP hD hS j t0 hj ht (vp_in_nI hi hn) hdg (fun H1 locs1 h1 h2 h3 => ?_)
  rw [nI_clamp (by omega)] at h1 h2
  rw [pl_set hD h hj] at h1 h2
  exact kk H1 locs1 h1 h2 h3
theorem xw_zast (hexec : p.tables.exec = Jvm.exec) (hb : c.code = cc) (hK : va_K D cl tys s) (hP : va_P D cl (va_pl L f) H) (hD : va_D A (va_pl L f)) (hS : va_S A H0 H locs) (t0 : Nat) {cA : ClassId} {n : Nat} {g : Nat → Int32} (h : Lk L f a (.inl (cA, n, .inl g))) (ht : tys[t0]? = some (cA, .boolean)) {i : Nat} {x : Int32} (hi : i < n) (hn : n < 2 ^ 31) (hx : vp_nar .boolean x = x) (hdg : decode cc pc = .ok (.bastore, 1))
    (kk : ∀ (H1 : Heap) (locs1 : List Loc), va_P D cl (va_pl L (va_up f a (.inl (cA, n, .inl (upd g i x))))) H1 → va_D A (va_pl L (va_up f a (.inl (cA, n, .inl (upd g i x))))) → va_S A H0 H1 locs1 → W p l e R s m args below meth c H1 locs1 cells slots Q (F0 m (pc + 1) ls rest)) : W p l e R s m args below meth c H locs cells slots Q (F0 m pc ls (.int x :: .int (nI i) :: .ref a :: rest)) := by
  obtain ⟨j, hj⟩ := pl_at h
  refine va_zast hexec hb hK hP hD hS j t0 hj ht (vp_in_nI hi hn) hdg (fun H1 locs1 h1 h2 h3 => ?_)
  rw [nI_clamp (by omega), hx] at h1 h2
  rw [pl_set hD h hj] at h1 h2
  exact kk H1 locs1 h1 h2 h3
theorem xw_iast (hexec : p.tables.exec = Jvm.exec) (hb : c.code = cc) (hK : va_K D cl tys s) (hP : va_P D cl (va_pl L f) H) (hD : va_D A (va_pl L f)) (hS : va_S A H0 H locs) (t0 : Nat) {cA : ClassId} {n : Nat} {g : Nat → Int32} (h : Lk L f a (.inl (cA, n, .inl g))) (ht : tys[t0]? = some (cA, .int)) {i : Nat} {x : Int32} (hi : i < n) (hn : n < 2 ^ 31) (hdg : decode cc pc = .ok (.iastore, 1))
    (kk : ∀ (H1 : Heap) (locs1 : List Loc), va_P D cl (va_pl L (va_up f a (.inl (cA, n, .inl (upd g i x))))) H1 → va_D A (va_pl L (va_up f a (.inl (cA, n, .inl (upd g i x))))) → va_S A H0 H1 locs1 → W p l e R s m args below meth c H1 locs1 cells slots Q (F0 m (pc + 1) ls rest)) : W p l e R s m args below meth c H locs cells slots Q (F0 m pc ls (.int x :: .int (nI i) :: .ref a :: rest)) := by
  obtain ⟨j, hj⟩ := pl_at h
  refine va_iast hexec hb hK hP hD hS j t0 hj ht (vp_in_nI hi hn) hdg (fun H1 locs1 h1 h2 h3 => ?_)
  rw [nI_clamp (by omega)] at h1 h2
  rw [pl_set hD h hj] at h1 h2
  exact kk H1 locs1 h1 h2 h3
theorem xw_astq (hexec : p.tables.exec = Jvm.exec) (hb : c.code = cc) (hK : va_K D cl tys s) (hP : va_P D cl (va_pl L f) H) (hD : va_D A (va_pl L f)) (hS : va_S A H0 H locs) (t0 ci : Nat) {cA : ClassId} {r : vw_C} {n v : Nat} {vs : List Value} {g : Nat → Option Nat} (h : Lk L f a (.inl (cA, n, .inr (.inr (.inr (.inr g)))))) (ht : tys[t0]? = some (cA, .object r.1)) (hv : Lk L f v (.inr (ci, vs))) (hc : cl[ci]? = some r) {i : Nat} (hi : i < n) (hn : n < 2 ^ 31) (hdg : decode cc pc = .ok (.aastore, 1))
    (kk : ∀ (H1 : Heap) (locs1 : List Loc), va_P D cl (va_pl L (va_up f a (.inl (cA, n, .inr (.inr (.inr (.inr (va_up g i (some v))))))))) H1 → va_D A (va_pl L (va_up f a (.inl (cA, n, .inr (.inr (.inr (.inr (va_up g i (some v))))))))) → va_S A H0 H1 locs1 → W p l e R s m args below meth c H1 locs1 cells slots Q (F0 m (pc + 1) ls rest)) : W p l e R s m args below meth c H locs cells slots Q (F0 m pc ls (.ref v :: .int (nI i) :: .ref a :: rest)) := by
  obtain ⟨j, hj⟩ := pl_at h
  obtain ⟨jv, hjv⟩ := pl_at hv
  refine va_astq hexec hb hK hP hD hS j t0 jv ci hj ht hjv hc (vp_in_nI hi hn) hdg (fun H1 locs1 h1 h2 h3 => ?_)
  rw [nI_clamp (by omega)] at h1 h2
  rw [pl_set hD h hj] at h1 h2
  exact kk H1 locs1 h1 h2 h3
theorem xw_astqN (hexec : p.tables.exec = Jvm.exec) (hb : c.code = cc) (hK : va_K D cl tys s) (hP : va_P D cl (va_pl L f) H) (hD : va_D A (va_pl L f)) (hS : va_S A H0 H locs) (t0 : Nat) {cA : ClassId} {C : String} {n : Nat} {g : Nat → Option Nat} (h : Lk L f a (.inl (cA, n, .inr (.inr (.inr (.inr g)))))) (ht : tys[t0]? = some (cA, .object C)) {i : Nat} (hi : i < n) (hn : n < 2 ^ 31) (hdg : decode cc pc = .ok (.aastore, 1))
    (kk : ∀ (H1 : Heap) (locs1 : List Loc), va_P D cl (va_pl L (va_up f a (.inl (cA, n, .inr (.inr (.inr (.inr (va_up g i none)))))))) H1 → va_D A (va_pl L (va_up f a (.inl (cA, n, .inr (.inr (.inr (.inr (va_up g i none)))))))) → va_S A H0 H1 locs1 → W p l e R s m args below meth c H1 locs1 cells slots Q (F0 m (pc + 1) ls rest)) : W p l e R s m args below meth c H locs cells slots Q (F0 m pc ls (.null :: .int (nI i) :: .ref a :: rest)) := by
  obtain ⟨j, hj⟩ := pl_at h
  refine va_astqN hexec hb hK hP hD hS j t0 hj ht (vp_in_nI hi hn) hdg (fun H1 locs1 h1 h2 h3 => ?_)
  rw [nI_clamp (by omega)] at h1 h2
  rw [pl_set hD h hj] at h1 h2
  exact kk H1 locs1 h1 h2 h3
theorem pl_push {q : Nat} {e0 : va_E} (hD : va_D A (va_pl L f ++ [(q, e0)])) : q ∉ L ∧ va_pl L f ++ [(q, e0)] = va_pl (L ++ [q]) (va_up f q e0) := by
  have h := va_pl_fresh2 (X := []) hD
  exact ⟨h, va_pl_push h⟩
theorem xw_new (hexec : p.tables.exec = Jvm.exec) (hb : c.code = cc) {own C : String} {T : u_T} {N ci index : Nat} {Ts : List Cond} (hts : ∀ w ∈ Ts, w.before args s = true) (hin : ∀ w ∈ u_ws C T N, w ∈ Ts) (ty : Nat → FieldType) (hty : ∀ k, k < N → parseFieldDescriptor (T k).2.2.1 = some (ty k)) (hown : s.vm.findClass own = some m.cls) (hcl : (Cond.classLink own index C).before args s = true) (hinst : (Cond.instantiable C N).before args s = true) (hini : (Cond.initialized C).before args s = true)
    (hK : va_K D cl tys s) (hP : va_P D cl (va_pl L f) H) (hD : va_D A (va_pl L f)) (hS : va_S A H0 H locs) (hA : ∀ q, H0.size ≤ q → A q) (hc : cl[ci]? = some (C, T, N)) {fs : List Value} (hfs : ∀ j, j < N → defaultValue (ty j) = vp_V fs j) (hcells : cells + 1 ≤ R.cells) (hslots : slots + N ≤ R.slots) (hdg : decode cc pc = .ok (.new index, 3))
    (kk : ∀ (q : Nat) (H1 : Heap), q ∉ L → va_P D cl (va_pl (L ++ [q]) (va_up f q (.inr (ci, fs)))) H1 → va_D A (va_pl (L ++ [q]) (va_up f q (.inr (ci, fs)))) → va_S A H0 H1 locs →
      W p l e R s m args below meth c H1 locs (cells + 1) (slots + N) Q (F0 m (pc + 3) ls (.ref q :: rest))) : W p l e R s m args below meth c H locs cells slots Q (F0 m pc ls rest) := by
  refine va_new hexec hb hts hin ty hty hown hcl hinst hini hK hP hD hS hA hc hfs hcells hslots hdg (fun q H1 h1 h2 h3 => ?_)
  obtain ⟨hq, he⟩ := pl_push h2
  rw [he] at h1 h2
  exact kk q H1 hq h1 h2 h3
end XW
/-! New arrays; the start and the end of a method that writes. -/
theorem va_RA_fun {U : State} {cA cB : ClassId} {ty : FieldType} (h1 : va_RA U cA ty) (h2 : va_RA U cB ty) : cA = cB := by
  cases ty with
  | object C =>
    obtain ⟨_, _, _, _, _, a⟩ := h1
    obtain ⟨_, _, _, _, _, b⟩ := h2
    exact Option.some.inj (a.symm.trans b)
  | _ => exact Option.some.inj (Eq.trans (Eq.symm h1) h2)
section XN
variable {p : Program} {l : Launch} {e : Env} {R : Room} {s : State} {m : MethodId} {args : Array Value} {below : List Frame} {meth : Method} {c : Code} {H : Heap} {locs : List Loc} {cells slots : Nat} {Q : State → Prop}
variable {cc : ByteArray} {pc : Nat} {ls : Array Slot} {rest : List Value} {D : va_G} {cl : List vw_C} {A : Nat → Prop} {tys : List (ClassId × FieldType)} {H0 : Heap} {L : List Nat} {f : Nat → va_E}
theorem xw_newa (hexec : p.tables.exec = Jvm.exec) (hb : c.code = cc) {atype : ArrayType} (harr : (Cond.arrayClass (newarray.typeOf atype)).before args s = true) {ty : FieldType} (hty : newarray.typeOf atype = ty) (hK : va_K D cl tys s) (hP : va_P D cl (va_pl L f) H) (hD : va_D A (va_pl L f)) (hS : va_S A H0 H locs) (hA : ∀ q, H0.size ≤ q → A q)
    (t0 : Nat) {cA0 : ClassId} (ht : tys[t0]? = some (cA0, ty)) {n : Int32} {N' : Nat} {a0 : vp_A} (ha : ∀ cA : ClassId, vp_cell cA a0 = arrV cA N' (fun _ => defaultValue ty)) (hn : ¬ n < 0) (hN : n.toNatClampNeg = N') (hbytes : N' * componentBytes ty ≤ 536870912) (hcells : cells + 1 ≤ R.cells) (hslots : slots + N' ≤ R.slots) (hdg : decode cc pc = .ok (.newarray atype, 2))
    (kk : ∀ (q : Nat) (H1 : Heap), q ∉ L → va_P D cl (va_pl (L ++ [q]) (va_up f q (.inl (cA0, a0)))) H1 → va_D A (va_pl (L ++ [q]) (va_up f q (.inl (cA0, a0)))) → va_S A H0 H1 locs →
      W p l e R s m args below meth c H1 locs (cells + 1) (slots + N') Q (F0 m (pc + 2) ls (.ref q :: rest))) : W p l e R s m args below meth c H locs cells slots Q (F0 m pc ls (.int n :: rest)) := by
  refine va_newa hexec hb harr hty hK hP hD hS hA ha hn hN hbytes hcells hslots hdg (fun q cA H1 hK1 h1 h2 h3 => ?_)
  have e1 : cA = cA0 := va_RA_fun (hK1.2 tys.length (cA, ty) (by simp)).2 (hK.2 t0 _ ht).2
  subst e1
  obtain ⟨hq, he⟩ := pl_push h2
  rw [he] at h1 h2
  exact kk q H1 hq h1 h2 h3
theorem xw_newq (hexec : p.tables.exec = Jvm.exec) (hb : c.code = cc) {own C : String} {index : Nat} (hown : s.vm.findClass own = some m.cls) (hclink : (Cond.classLink own index C).before args s = true) (hover : va_AO C s) (hK : va_K D cl tys s) (hP : va_P D cl (va_pl L f) H) (hD : va_D A (va_pl L f)) (hS : va_S A H0 H locs) (hA : ∀ q, H0.size ≤ q → A q)
    (t0 : Nat) {cA0 : ClassId} (ht : tys[t0]? = some (cA0, .object C)) {n : Int32} {N' : Nat} (hn : ¬ n < 0) (hN : n.toNatClampNeg = N') (hbytes : N' * 4 ≤ 536870912) (hcells : cells + 1 ≤ R.cells) (hslots : slots + N' ≤ R.slots) (hdg : decode cc pc = .ok (.anewarray index, 3))
    (kk : ∀ (q : Nat) (H1 : Heap), q ∉ L → va_P D cl (va_pl (L ++ [q]) (va_up f q (.inl (cA0, N', .inr (.inr (.inr (.inr (fun _ => none)))))))) H1 → va_D A (va_pl (L ++ [q]) (va_up f q (.inl (cA0, N', .inr (.inr (.inr (.inr (fun _ => none)))))))) → va_S A H0 H1 locs →
      W p l e R s m args below meth c H1 locs (cells + 1) (slots + N') Q (F0 m (pc + 3) ls (.ref q :: rest))) : W p l e R s m args below meth c H locs cells slots Q (F0 m pc ls (.int n :: rest)) := by
  refine va_newq hexec hb hown hclink hover hK hP hD hS hA hn hN hbytes hcells hslots hdg (fun q cA H1 hK1 h1 h2 h3 => ?_)
  have e1 : cA = cA0 := va_RA_fun (hK1.2 tys.length (cA, .object C) (by simp)).2 (hK.2 t0 _ ht).2
  subst e1
  obtain ⟨hq, he⟩ := pl_push h2
  rw [he] at h1 h2
  exact kk q H1 hq h1 h2 h3
end XN
/-- what a method that writes may change -/
def Am (L : List Nat) (sz : Nat) : Nat → Prop := fun q => q ∈ L ∨ sz ≤ q
def PZ (G : GG) (L : List Nat) (f : Nat → va_E) (sz : Nat) (U : State) : Prop := U.heap.size = sz ∧ va_P G.1 vwCl (va_pl L f) U.heap ∧ KK G U
abbrev WU : Type := List Nat × (Nat → va_E)
def BZ (G : GG) (A : Nat → Prop) (u : WU) (t : State) : Prop := va_P G.1 vwCl (va_pl u.1 u.2) t.heap ∧ va_D A (va_pl u.1 u.2)
def RW (d mc ms : Nat) : Room := { frames := d, cells := mc, slots := ms, locals := 32 * d }
theorem am_free {A : Nat → Prop} {L : List Nat} {f : Nat → va_E} {H0 H : Heap} {locs : List Loc} (hD : va_D A (va_pl L f)) (hS : va_S A H0 H locs) (hA : ∀ q, H0.size ≤ q → A q) : ∀ q, Am L H.size q → A q := fun q h => by
  rcases h with h | h
  · obtain ⟨k, hk⟩ := va_pl_get (X := []) (f := f) h
    exact hD.2 k _ hk
  · exact hA q (Nat.le_trans hS.1 h)
theorem pz_preS {G : GG} {L : List Nat} {f : Nat → va_E} {H : Heap} {s : State} {As : List Value} (hP : va_P G.1 vwCl (va_pl L f) H) (hK : KK G s) : PreS s H (va_Pc As (PZ G L f H.size)) As :=
  ⟨fun a U g mk q => ⟨q.1, q.2.1, q.2.2.1, KK.call q.2.2.2⟩, fun U hU hW => ⟨rfl, by rw [hU], by rw [hU]; exact hP, KK.warm hW hK⟩⟩
theorem pz_preV {G : GG} {L : List Nat} {f : Nat → va_E} {H : Heap} {s : State} {b ci : Nat} {C : String} {T : u_T} {N : Nat} {fs As : List Value} (hP : va_P G.1 vwCl (va_pl L f) H) (hK : KK G s) (h : Lk L f b (.inr (ci, fs))) (hc : vwCl[ci]? = some (C, T, N)) : PreV s H C b (va_Pc (.ref b :: As) (PZ G L f H.size)) As :=
  ⟨fun a U g mk q => ⟨q.1, q.2.1, q.2.2.1, KK.call q.2.2.2⟩, va_recv hK.1 (pl_o hP h) hc (q0 := 0) rfl, fun U hU hW => ⟨rfl, by rw [hU], by rw [hU]; exact hP, KK.warm hW hK⟩⟩
theorem va_Dw {A B : Nat → Prop} {ws : va_W} (h : va_D A ws) (hAB : ∀ q, A q → B q) : va_D B ws := h.weaken (fun _ q _ hq => hAB q.1 hq)
/-- what lay there lies there still, but for the addresses in S -/
def Kp (S : Nat → Prop) (L : List Nat) (f : Nat → va_E) (u : WU) : Prop := ∀ a e, Lk L f a e → ¬ S a → Lk u.1 u.2 a e
theorem Kp.rf {S : Nat → Prop} {L : List Nat} {f : Nat → va_E} : Kp S L f (L, f) := fun _ _ h _ => h
theorem Kp.up {S : Nat → Prop} {L0 L : List Nat} {f0 f : Nat → va_E} {a : Nat} {e : va_E} (h : Kp S L0 f0 (L, f)) (ha : S a) : Kp S L0 f0 (L, va_up f a e) := fun b e2 hb hs => (h b e2 hb hs).up (fun q => hs (q ▸ ha))
theorem Kp.upF {S : Nat → Prop} {L0 L : List Nat} {f0 f : Nat → va_E} {a : Nat} {e : va_E} (h : Kp S L0 f0 (L, f)) (ha : a ∉ L0) : Kp S L0 f0 (L, va_up f a e) := fun b e2 hb hs => (h b e2 hb hs).up (fun q => ha (q ▸ hb.1))
theorem Kp.push {S : Nat → Prop} {L0 L : List Nat} {f0 f : Nat → va_E} {q : Nat} {e : va_E} (h : Kp S L0 f0 (L, f)) (hq : q ∉ L) : Kp S L0 f0 (L ++ [q], va_up f q e) := fun b e2 hb hs => (h b e2 hb hs).push hq
theorem Kp.call {S S2 : Nat → Prop} {L0 L : List Nat} {f0 f : Nat → va_E} {u : WU} (h : Kp S L0 f0 (L, f)) (h2 : Kp S2 L f u) (hs : ∀ a, a ∈ L0 → S2 a → S a) : Kp S L0 f0 u := fun b e2 hb hn => h2 b e2 (h b e2 hb hn) (fun q => hn (hs b hb.1 q))
/-- a fact kept over a step -/
theorem Kp.k {S : Nat → Prop} {L : List Nat} {f : Nat → va_E} {L' : List Nat} {f' : Nat → va_E} {a : Nat} {e : va_E} (h : Kp S L f (L', f')) (ha : Lk L f a e) (hs : ¬ S a) : Lk L' f' a e := h a e ha hs
theorem bI_fit (b : Bool) : fits .boolean (.int (bI b)) = true := by cases b <;> rfl
theorem bI_vp (b : Bool) : vp_nar .boolean (bI b) = bI b := by cases b <;> rfl
end
section
/-! Counting, bits of a long, the JDK's bit count as numbers, the lowest bits of a word. No machine here. -/
/-- how many k below n have p -/
def cnt (p : Nat → Bool) : Nat → Nat
  | 0 => 0
  | n + 1 => cnt p n + (if p n = true then 1 else 0)
theorem cnt_s (p : Nat → Bool) (n : Nat) : cnt p (n + 1) = cnt p n + (if p n = true then 1 else 0) := rfl
theorem cnt_t {p : Nat → Bool} {n : Nat} (h : p n = true) : cnt p (n + 1) = cnt p n + 1 := by rw [cnt_s, if_pos h]
theorem cnt_f {p : Nat → Bool} {n : Nat} (h : p n = false) : cnt p (n + 1) = cnt p n := by rw [cnt_s, h]; simp
theorem cnt_add (p : Nat → Bool) (a : Nat) : ∀ b, cnt p (a + b) = cnt p a + cnt (fun k => p (a + k)) b
  | 0 => by simp [cnt]
  | b + 1 => by
    show cnt p ((a + b) + 1) = _
    rw [cnt_s, cnt_s, cnt_add p a b]
    omega
theorem cnt_congr {p q : Nat → Bool} : ∀ {n : Nat}, (∀ k, k < n → p k = q k) → cnt p n = cnt q n
  | 0, _ => rfl
  | n + 1, h => by
    rw [cnt_s, cnt_s, cnt_congr (n := n) (fun k hk => h k (Nat.lt_succ_of_lt hk)), h n (Nat.lt_succ_self n)]
theorem cnt_le (p : Nat → Bool) : ∀ n, cnt p n ≤ n
  | 0 => Nat.le_refl 0
  | n + 1 => by
    rw [cnt_s]
    have h := cnt_le p n
    split <;> omega
theorem cnt_mono (p : Nat → Bool) {a b : Nat} (h : a ≤ b) : cnt p a ≤ cnt p b := by
  obtain ⟨c, rfl⟩ := Nat.exists_eq_add_of_le h
  rw [cnt_add]
  omega
theorem cnt_zero {p : Nat → Bool} {n : Nat} (h : ∀ k, k < n → p k = false) : cnt p n = 0 := by
  induction n with
  | zero => rfl
  | succ n ih => rw [cnt_f (h n (Nat.lt_succ_self n)), ih (fun k hk => h k (Nat.lt_succ_of_lt hk))]
/-- a count passes through every number below it -/
theorem cnt_hit {p : Nat → Bool} {i : Nat} : ∀ {n : Nat}, i < cnt p n → ∃ j, j < n ∧ p j = true ∧ cnt p j = i
  | 0, h => absurd h (Nat.not_lt_zero i)
  | n + 1, h => by
    by_cases hi : i < cnt p n
    · obtain ⟨j, h1, h2, h3⟩ := cnt_hit hi
      exact ⟨j, Nat.lt_succ_of_lt h1, h2, h3⟩
    · cases hp : p n with
      | false => rw [cnt_f hp] at h; exact absurd h hi
      | true =>
        rw [cnt_t hp] at h
        exact ⟨n, Nat.lt_succ_self n, hp, by omega⟩
/-- the one that has so many before it is one alone -/
theorem cnt_one {p : Nat → Bool} {a b : Nat} (ha : p a = true) (hb : p b = true) (h : cnt p a = cnt p b) : a = b := by
  rcases Nat.lt_trichotomy a b with q | q | q
  · have := cnt_mono p (show a + 1 ≤ b from q)
    rw [cnt_t ha] at this
    omega
  · exact q
  · have := cnt_mono p (show b + 1 ≤ a from q)
    rw [cnt_t hb] at this
    omega
theorem cnt_split (p : Nat → Bool) (m : Nat) : ∀ n, cnt p (m * n) = cnt (fun _ => false) 0 + (List.range n).foldl (fun s w => s + cnt (fun k => p (m * w + k)) m) 0
  | 0 => by simp [cnt]
  | n + 1 => by
    rw [Nat.mul_succ, cnt_add, cnt_split p m n, List.range_succ, List.foldl_append]
    simp [cnt]
/-! ### numbers by fields -/
def fsm (m : Nat) (g : Nat → Nat) : Nat → Nat
  | 0 => 0
  | n + 1 => 2 ^ (m * n) * g n + fsm m g n
theorem fsm_s (m : Nat) (g : Nat → Nat) (n : Nat) : fsm m g (n + 1) = 2 ^ (m * n) * g n + fsm m g n := rfl
theorem fsm_lt {m : Nat} {g : Nat → Nat} (hg : ∀ k, g k < 2 ^ m) : ∀ n, fsm m g n < 2 ^ (m * n)
  | 0 => by simp [fsm]
  | n + 1 => by
    have h := fsm_lt hg n
    have h2 : g n + 1 ≤ 2 ^ m := hg n
    have h3 : 2 ^ (m * n) * (g n + 1) ≤ 2 ^ (m * n) * 2 ^ m := Nat.mul_le_mul_left _ h2
    rw [fsm_s, Nat.mul_succ, Nat.pow_add]
    rw [Nat.mul_succ] at h3
    omega
theorem fsm_congr {m : Nat} {g h : Nat → Nat} : ∀ {n : Nat}, (∀ k, k < n → g k = h k) → fsm m g n = fsm m h n
  | 0, _ => rfl
  | n + 1, e => by rw [fsm_s, fsm_s, fsm_congr (n := n) (fun k hk => e k (Nat.lt_succ_of_lt hk)), e n (Nat.lt_succ_self n)]
theorem fsm_add (m : Nat) (g h : Nat → Nat) : ∀ n, fsm m (fun k => g k + h k) n = fsm m g n + fsm m h n
  | 0 => rfl
  | n + 1 => by rw [fsm_s, fsm_s, fsm_s, fsm_add m g h n, Nat.mul_add]; omega
theorem and_cat {s a b c d : Nat} (ha : a < 2 ^ s) (hc : c < 2 ^ s) : (2 ^ s * b + a) &&& (2 ^ s * d + c) = 2 ^ s * (b &&& d) + (a &&& c) := by
  apply Nat.eq_of_testBit_eq
  intro i
  have hac : a &&& c < 2 ^ s := Nat.lt_of_le_of_lt Nat.and_le_left ha
  rw [Nat.testBit_and, Nat.testBit_two_pow_mul_add _ ha, Nat.testBit_two_pow_mul_add _ hc, Nat.testBit_two_pow_mul_add _ hac]
  split <;> rw [Nat.testBit_and]
theorem fsm_and {m : Nat} {g h : Nat → Nat} (hg : ∀ k, g k < 2 ^ m) (hh : ∀ k, h k < 2 ^ m) : ∀ n, fsm m g n &&& fsm m h n = fsm m (fun k => g k &&& h k) n
  | 0 => by simp [fsm]
  | n + 1 => by rw [fsm_s, fsm_s, fsm_s, and_cat (fsm_lt hg n) (fsm_lt hh n), fsm_and hg hh n]
/-- the lowest field, and the others -/
theorem fsm_low (m : Nat) (g : Nat → Nat) : ∀ n, fsm m g (n + 1) = g 0 + 2 ^ m * fsm m (fun k => g (k + 1)) n
  | 0 => by simp [fsm]
  | n + 1 => by
    rw [fsm_s, fsm_low m g n, fsm_s m (fun k => g (k + 1)) n, Nat.mul_succ, Nat.pow_add, Nat.mul_add]
    rw [Nat.mul_comm (2 ^ (m * n)) (2 ^ m), Nat.mul_assoc]
    omega
theorem fsm_shr {m : Nat} {g : Nat → Nat} (h0 : g 0 < 2 ^ m) {n : Nat} (hz : g (n + 1) = 0) : fsm m g (n + 1) / 2 ^ m = fsm m (fun k => g (k + 1)) (n + 1) := by
  rw [fsm_low, fsm_s, Nat.add_mul_div_left _ _ (Nat.two_pow_pos m), Nat.div_eq_of_lt h0, hz]
  omega
/-- two fields make one -/
theorem fsm_pair (m : Nat) (g : Nat → Nat) : ∀ n, fsm m g (2 * n) = fsm (2 * m) (fun k => g (2 * k) + 2 ^ m * g (2 * k + 1)) n
  | 0 => rfl
  | n + 1 => by
    show fsm m g (2 * n + 1 + 1) = _
    rw [fsm_s, fsm_s, fsm_s, fsm_pair m g n, Nat.mul_succ m (2 * n), Nat.pow_add, Nat.mul_add, Nat.mul_assoc (2 ^ (m * (2 * n)))]
    rw [show 2 * m * n = m * (2 * n) by rw [Nat.mul_comm 2 m, Nat.mul_assoc]]
    omega
/-- a number by its bits -/
def bt1 (n k : Nat) : Nat := if n.testBit k = true then 1 else 0
theorem bt1_lt (n k : Nat) : bt1 n k < 2 := by unfold bt1; split <;> omega
theorem bt1_div (n k : Nat) : bt1 n k = n / 2 ^ k % 2 := by
  unfold bt1
  rw [Nat.testBit_eq_decide_div_mod_eq]
  by_cases h : n / 2 ^ k % 2 = 1
  · simp [h]
  · simp only [h, decide_false]
    have : n / 2 ^ k % 2 < 2 := Nat.mod_lt _ (by omega)
    simp
    omega
theorem fsm_bits (n : Nat) : ∀ k, n % 2 ^ k = fsm 1 (bt1 n) k
  | 0 => by simp [fsm, Nat.mod_one]
  | k + 1 => by rw [fsm_s, Nat.mod_pow_succ, fsm_bits n k, bt1_div, Nat.one_mul]; omega
theorem bt1_big {n k : Nat} (h : n < 2 ^ k) : bt1 n k = 0 := by
  unfold bt1
  rw [Nat.testBit_lt_two_pow h]
  simp
/-! ### Int64 as an unsigned number -/
def uN (x : Int64) : Nat := x.toUInt64.toNat
theorem uN_lt (x : Int64) : uN x < 18446744073709551616 := x.toUInt64.toNat_lt
theorem uN_inj {x y : Int64} (h : uN x = uN y) : x = y := congrArg UInt64.toInt64 (UInt64.toNat_inj.mp h)
theorem uN_add (x y : Int64) : uN (x + y) = (uN x + uN y) % 18446744073709551616 := by
  show (x.toUInt64 + y.toUInt64).toNat = _
  exact UInt64.toNat_add _ _
theorem uN_sub (x y : Int64) : uN (x - y) = (18446744073709551616 - uN y + uN x) % 18446744073709551616 := by
  show (x.toUInt64 - y.toUInt64).toNat = _
  exact UInt64.toNat_sub _ _
theorem uN_and (x y : Int64) : uN (x &&& y) = uN x &&& uN y := by
  show (x.toUInt64 &&& y.toUInt64).toNat = _
  exact UInt64.toNat_and _ _
theorem uN_or (x y : Int64) : uN (x ||| y) = uN x ||| uN y := by
  show (x.toUInt64 ||| y.toUInt64).toNat = _
  exact UInt64.toNat_or _ _
theorem uN_xor (x y : Int64) : uN (x ^^^ y) = uN x ^^^ uN y := by
  show (x.toUInt64 ^^^ y.toUInt64).toNat = _
  exact UInt64.toNat_xor _ _
theorem uN_shr (x : Int64) (s : UInt64) : uN (x.toUInt64 >>> s).toInt64 = uN x / 2 ^ (s.toNat % 64) := by
  show (x.toUInt64 >>> s).toNat = _
  rw [UInt64.toNat_shiftRight, Nat.shiftRight_eq_div_pow]
  rfl
theorem uN_neg (x : Int64) : uN (-x) = (18446744073709551616 - uN x) % 18446744073709551616 := by
  show (-x.toUInt64).toNat = _
  exact UInt64.toNat_neg _
/-- bit b of a word -/
def xB (x : Int64) (b : Nat) : Bool := (uN x).testBit b
theorem xB_and (x y : Int64) (b : Nat) : xB (x &&& y) b = (xB x b && xB y b) := by
  unfold xB
  rw [uN_and, Nat.testBit_and]
theorem xB_or (x y : Int64) (b : Nat) : xB (x ||| y) b = (xB x b || xB y b) := by
  unfold xB
  rw [uN_or, Nat.testBit_or]
theorem xB_xor (x y : Int64) (b : Nat) : xB (x ^^^ y) b = (xB x b ^^ xB y b) := by
  unfold xB
  rw [uN_xor, Nat.testBit_xor]
theorem xB_m1 : ∀ b, b < 64 → xB (-1) b = true := by decide +kernel
theorem xB_0 (b : Nat) : xB 0 b = false := by
  unfold xB
  rw [show uN 0 = 0 from rfl, Nat.zero_testBit]
theorem xB_not (x : Int64) {b : Nat} (hb : b < 64) : xB (x ^^^ (-1)) b = !xB x b := by
  rw [xB_xor, xB_m1 b hb]
  cases xB x b <;> rfl
theorem xB_big {x : Int64} {b : Nat} (h : 64 ≤ b) : xB x b = false :=
  Nat.testBit_lt_two_pow (Nat.lt_of_lt_of_le (uN_lt x) (show 2 ^ 64 ≤ 2 ^ b from Nat.pow_le_pow_right (by omega) h))
theorem xB_ext {x y : Int64} (h : ∀ b, b < 64 → xB x b = xB y b) : x = y := by
  apply uN_inj
  apply Nat.eq_of_testBit_eq
  intro b
  by_cases hb : b < 64
  · exact h b hb
  · exact (xB_big (x := x) (by omega)).trans (xB_big (x := y) (by omega)).symm
theorem xB_z {x : Int64} : x = 0 ↔ ∀ b, b < 64 → xB x b = false :=
  ⟨fun h b _ => by rw [h, xB_0], fun h => xB_ext (fun b hb => by rw [h b hb, xB_0])⟩
theorem xB_nz {x : Int64} (h : ¬ x = 0) : ∃ b, b < 64 ∧ xB x b = true := by
  apply Classical.byContradiction
  intro q
  apply h
  refine xB_z.mpr (fun b hb => ?_)
  cases hx : xB x b with
  | false => rfl
  | true => exact absurd ⟨b, hb, hx⟩ q
def pop (x : Int64) : Nat := cnt (xB x) 64
theorem pop_le (x : Int64) : pop x ≤ 64 := cnt_le _ _
/-! ### the bit count, by numbers -/
def hd1 (n : Nat) : Nat := n - (n / 2 &&& 6148914691236517205)
def hd2 (n : Nat) : Nat := (n &&& 3689348814741910323) + (n / 4 &&& 3689348814741910323)
def hd3 (n : Nat) : Nat := (n + n / 16) &&& 1085102592571150095
theorem hd1_ok {n : Nat} (h : n < 2 ^ 64) : n / 2 &&& 6148914691236517205 ≤ n ∧ hd1 n = fsm 2 (fun k => bt1 n (2 * k) + bt1 n (2 * k + 1)) 32 := by
  have e0 : n = fsm 1 (bt1 n) 64 := by rw [← fsm_bits, Nat.mod_eq_of_lt h]
  have e1 : n = fsm 2 (fun k => bt1 n (2 * k) + 2 * bt1 n (2 * k + 1)) 32 := by
    have := fsm_pair 1 (bt1 n) 32
    rw [← e0] at this
    exact this
  have e2 : n / 2 = fsm 1 (fun k => bt1 n (k + 1)) 64 := by
    have := fsm_shr (m := 1) (g := bt1 n) (bt1_lt n 0) (n := 63) (bt1_big h)
    rw [← e0] at this
    exact this
  have e3 : (6148914691236517205 : Nat) = fsm 1 (fun k => if k % 2 = 0 then 1 else 0) 64 := by decide +kernel
  have e4 : n / 2 &&& 6148914691236517205 = fsm 2 (fun k => bt1 n (2 * k + 1)) 32 := by
    rw [e2, e3, fsm_and (fun k => bt1_lt n (k + 1)) (fun k => by split <;> omega), show (64 : Nat) = 2 * 32 from rfl, fsm_pair]
    apply fsm_congr
    intro k _
    have b1 := bt1_lt n (2 * k + 1)
    rw [if_pos (by omega), if_neg (by omega)]
    have : bt1 n (2 * k + 1) = 0 ∨ bt1 n (2 * k + 1) = 1 := by omega
    rcases this with q | q <;> rw [q] <;> simp
  have e5 : n = fsm 2 (fun k => bt1 n (2 * k) + bt1 n (2 * k + 1)) 32 + fsm 2 (fun k => bt1 n (2 * k + 1)) 32 := by
    rw [← fsm_add]
    refine e1.trans (fsm_congr (fun k _ => ?_))
    omega
  unfold hd1
  rw [e4]
  constructor <;> omega
/-- every other field is kept -/
theorem fsm_even {m : Nat} {g : Nat → Nat} (hg : ∀ k, g k < 2 ^ m) (n : Nat) : fsm m g (2 * n) &&& fsm m (fun k => if k % 2 = 0 then 2 ^ m - 1 else 0) (2 * n) = fsm (2 * m) (fun k => g (2 * k)) n := by
  have hp := Nat.two_pow_pos m
  rw [fsm_and hg (fun k => by split <;> omega), fsm_pair]
  apply fsm_congr
  intro k _
  rw [if_pos (by omega), if_neg (by omega), Nat.and_two_pow_sub_one_eq_mod, Nat.mod_eq_of_lt (hg _), Nat.and_zero]
  omega
theorem hd2_ok {g : Nat → Nat} (hg : ∀ k, g k ≤ 2) (hz : ∀ k, 32 ≤ k → g k = 0) : hd2 (fsm 2 g 32) = fsm 4 (fun k => g (2 * k) + g (2 * k + 1)) 16 := by
  have hg4 : ∀ k, g k < 2 ^ 2 := fun k => by have := hg k; omega
  have e3 : (3689348814741910323 : Nat) = fsm 2 (fun k => if k % 2 = 0 then 2 ^ 2 - 1 else 0) (2 * 16) := by decide +kernel
  have e1 := fsm_even hg4 16
  have e2 : fsm 2 g 32 / 4 = fsm 2 (fun k => g (k + 1)) 32 := fsm_shr (m := 2) (g := g) (hg4 0) (n := 31) (hz 32 (by omega))
  have e4 := fsm_even (m := 2) (g := fun k => g (k + 1)) (fun k => hg4 _) 16
  unfold hd2
  rw [e2, e3, show (32 : Nat) = 2 * 16 from rfl, e1, e4, ← fsm_add]
theorem hd3_ok {g : Nat → Nat} (hg : ∀ k, g k ≤ 4) (hz : ∀ k, 16 ≤ k → g k = 0) : fsm 4 g 16 + fsm 4 g 16 / 16 < 2 ^ 64 ∧ hd3 (fsm 4 g 16) = fsm 8 (fun k => g (2 * k) + g (2 * k + 1)) 8 := by
  have hg4 : ∀ k, g k < 2 ^ 4 := fun k => by have := hg k; omega
  have e2 : fsm 4 g 16 / 16 = fsm 4 (fun k => g (k + 1)) 16 := fsm_shr (m := 4) (g := g) (hg4 0) (n := 15) (hz 16 (by omega))
  have e5 : fsm 4 g 16 + fsm 4 g 16 / 16 = fsm 4 (fun k => g k + g (k + 1)) 16 := by rw [e2, ← fsm_add]
  have hs : ∀ k, g k + g (k + 1) < 2 ^ 4 := fun k => by have := hg k; have := hg (k + 1); omega
  have e3 : (1085102592571150095 : Nat) = fsm 4 (fun k => if k % 2 = 0 then 2 ^ 4 - 1 else 0) (2 * 8) := by decide +kernel
  have e1 := fsm_even (m := 4) (g := fun k => g k + g (k + 1)) hs 8
  unfold hd3
  rw [e5]
  refine ⟨fsm_lt hs 16, ?_⟩
  rw [e3, show (16 : Nat) = 2 * 8 from rfl, e1]
/-- a shift by whole fields -/
theorem fsm_shrs {m : Nat} {g : Nat → Nat} (hg : ∀ k, g k < 2 ^ m) {n : Nat} (hz : ∀ k, n ≤ k → g k = 0) : ∀ j, fsm m g n / 2 ^ (m * j) = fsm m (fun k => g (k + j)) n
  | 0 => by simp
  | j + 1 => by
    rw [Nat.mul_succ, Nat.pow_add, ← Nat.div_div_eq_div_mul, fsm_shrs hg hz j]
    cases n with
    | zero => simp [fsm]
    | succ n =>
      rw [fsm_shr (g := fun k => g (k + j)) (hg _) (hz _ (by omega))]
      apply fsm_congr
      intro k _
      rw [show k + 1 + j = k + (j + 1) by omega]
theorem hd_end {g : Nat → Nat} (hg : ∀ k, g k ≤ 8) (hz : ∀ k, 8 ≤ k → g k = 0) :
    let a := fsm 8 g 8
    let b := a + a / 256
    let c := b + b / 65536
    let d := c + c / 4294967296
    b < 2 ^ 64 ∧ c < 2 ^ 64 ∧ d < 2 ^ 64 ∧ d % 128 = g 0 + g 1 + g 2 + g 3 + g 4 + g 5 + g 6 + g 7 := by
  intro a b c d
  have h8 : ∀ k, g k < 2 ^ 8 := fun k => by have := hg k; omega
  have eb : b = fsm 8 (fun k => g k + g (k + 1)) 8 := by
    show fsm 8 g 8 + fsm 8 g 8 / 2 ^ (8 * 1) = _
    rw [fsm_shrs h8 hz 1, ← fsm_add]
  have hb8 : ∀ k, g k + g (k + 1) < 2 ^ 8 := fun k => by have := hg k; have := hg (k + 1); omega
  have hbz : ∀ k, 8 ≤ k → g k + g (k + 1) = 0 := fun k hk => by rw [hz k hk, hz (k + 1) (by omega)]
  have ec : c = fsm 8 (fun k => (g k + g (k + 1)) + (g (k + 2) + g (k + 2 + 1))) 8 := by
    show b + b / 2 ^ (8 * 2) = _
    rw [eb, fsm_shrs (g := fun k => g k + g (k + 1)) hb8 hbz 2, ← fsm_add]
  have hc8 : ∀ k, (g k + g (k + 1)) + (g (k + 2) + g (k + 2 + 1)) < 2 ^ 8 := fun k => by
    have := hg k; have := hg (k + 1); have := hg (k + 2); have := hg (k + 2 + 1); omega
  have hcz : ∀ k, 8 ≤ k → (g k + g (k + 1)) + (g (k + 2) + g (k + 2 + 1)) = 0 := fun k hk => by
    rw [hz k hk, hz (k + 1) (by omega), hz (k + 2) (by omega), hz (k + 2 + 1) (by omega)]
  have ed : d = fsm 8 (fun k => ((g k + g (k + 1)) + (g (k + 2) + g (k + 2 + 1))) + ((g (k + 4) + g (k + 4 + 1)) + (g (k + 4 + 2) + g (k + 4 + 2 + 1)))) 8 := by
    show c + c / 2 ^ (8 * 4) = _
    rw [ec, fsm_shrs (g := fun k => (g k + g (k + 1)) + (g (k + 2) + g (k + 2 + 1))) hc8 hcz 4, ← fsm_add]
  have hd8 : ∀ k, ((g k + g (k + 1)) + (g (k + 2) + g (k + 2 + 1))) + ((g (k + 4) + g (k + 4 + 1)) + (g (k + 4 + 2) + g (k + 4 + 2 + 1))) < 2 ^ 8 := fun k => by
    have := hg k; have := hg (k + 1); have := hg (k + 2); have := hg (k + 2 + 1); have := hg (k + 4); have := hg (k + 4 + 1); have := hg (k + 4 + 2); have := hg (k + 4 + 2 + 1); omega
  refine ⟨by rw [eb]; exact fsm_lt hb8 8, by rw [ec]; exact fsm_lt hc8 8, by rw [ed]; exact fsm_lt hd8 8, ?_⟩
  have el := fsm_low 8 (fun k => ((g k + g (k + 1)) + (g (k + 2) + g (k + 2 + 1))) + ((g (k + 4) + g (k + 4 + 1)) + (g (k + 4 + 2) + g (k + 4 + 2 + 1)))) 7
  rw [ed, el]
  have := hg 0; have := hg 1; have := hg 2; have := hg 3; have := hg 4; have := hg 5; have := hg 6; have := hg 7
  have e0 : ((g 0 + g (0 + 1)) + (g (0 + 2) + g (0 + 2 + 1))) + ((g (0 + 4) + g (0 + 4 + 1)) + (g (0 + 4 + 2) + g (0 + 4 + 2 + 1))) = g 0 + g 1 + g 2 + g 3 + g 4 + g 5 + g 6 + g 7 := by
    simp only [Nat.zero_add, Nat.reduceAdd]
    omega
  rw [e0]
  generalize fsm 8 _ 7 = z
  have hy : g 0 + g 1 + g 2 + g 3 + g 4 + g 5 + g 6 + g 7 ≤ 64 := by omega
  generalize g 0 + g 1 + g 2 + g 3 + g 4 + g 5 + g 6 + g 7 = y at hy ⊢
  omega
/-- the whole: what the JDK's bit count comes to -/
def hdB (n : Nat) : Nat := hd3 (hd2 (hd1 n))
theorem cnt8 (n a : Nat) : cnt (fun k => n.testBit (a + k)) 8 = bt1 n a + bt1 n (a + 1) + bt1 n (a + 2) + bt1 n (a + 3) + bt1 n (a + 4) + bt1 n (a + 5) + bt1 n (a + 6) + bt1 n (a + 7) := by
  show 0 + bt1 n (a + 0) + bt1 n (a + 1) + bt1 n (a + 2) + bt1 n (a + 3) + bt1 n (a + 4) + bt1 n (a + 5) + bt1 n (a + 6) + bt1 n (a + 7) = _
  rw [Nat.zero_add, Nat.add_zero]
theorem hd_pop {n : Nat} (h : n < 2 ^ 64) :
    let a := hdB n
    let b := a + a / 256
    let c := b + b / 65536
    let d := c + c / 4294967296
    b < 2 ^ 64 ∧ c < 2 ^ 64 ∧ d < 2 ^ 64 ∧ d % 128 = cnt n.testBit 64 := by
  have z : ∀ k, 64 ≤ k → bt1 n k = 0 := fun k hk => bt1_big (Nat.lt_of_lt_of_le h (Nat.pow_le_pow_right (by omega) hk))
  have l1 : ∀ k, bt1 n k ≤ 1 := fun k => by have := bt1_lt n k; omega
  have e1 := (hd1_ok h).2
  have e2 := hd2_ok (g := fun k => bt1 n (2 * k) + bt1 n (2 * k + 1)) (fun k => by have := l1 (2 * k); have := l1 (2 * k + 1); omega) (fun k hk => by rw [z (2 * k) (by omega), z (2 * k + 1) (by omega)])
  have e3 := hd3_ok (g := fun k => (bt1 n (2 * (2 * k)) + bt1 n (2 * (2 * k) + 1)) + (bt1 n (2 * (2 * k + 1)) + bt1 n (2 * (2 * k + 1) + 1)))
    (fun k => by have := l1 (2 * (2 * k)); have := l1 (2 * (2 * k) + 1); have := l1 (2 * (2 * k + 1)); have := l1 (2 * (2 * k + 1) + 1); omega)
    (fun k hk => by rw [z (2 * (2 * k)) (by omega), z (2 * (2 * k) + 1) (by omega), z (2 * (2 * k + 1)) (by omega), z (2 * (2 * k + 1) + 1) (by omega)])
  have e4 := hd_end (g := fun k => ((bt1 n (2 * (2 * (2 * k))) + bt1 n (2 * (2 * (2 * k)) + 1)) + (bt1 n (2 * (2 * (2 * k) + 1)) + bt1 n (2 * (2 * (2 * k) + 1) + 1))) + ((bt1 n (2 * (2 * (2 * k + 1))) + bt1 n (2 * (2 * (2 * k + 1)) + 1)) + (bt1 n (2 * (2 * (2 * k + 1) + 1)) + bt1 n (2 * (2 * (2 * k + 1) + 1) + 1))))
    (fun k => by have := l1 (2 * (2 * (2 * k))); have := l1 (2 * (2 * (2 * k)) + 1); have := l1 (2 * (2 * (2 * k) + 1)); have := l1 (2 * (2 * (2 * k) + 1) + 1); have := l1 (2 * (2 * (2 * k + 1))); have := l1 (2 * (2 * (2 * k + 1)) + 1); have := l1 (2 * (2 * (2 * k + 1) + 1)); have := l1 (2 * (2 * (2 * k + 1) + 1) + 1); omega)
    (fun k hk => by rw [z (2 * (2 * (2 * k))) (by omega), z (2 * (2 * (2 * k)) + 1) (by omega), z (2 * (2 * (2 * k) + 1)) (by omega), z (2 * (2 * (2 * k) + 1) + 1) (by omega), z (2 * (2 * (2 * k + 1))) (by omega), z (2 * (2 * (2 * k + 1)) + 1) (by omega), z (2 * (2 * (2 * k + 1) + 1)) (by omega), z (2 * (2 * (2 * k + 1) + 1) + 1) (by omega)])
  have ea : hdB n = fsm 8 (fun k => ((bt1 n (2 * (2 * (2 * k))) + bt1 n (2 * (2 * (2 * k)) + 1)) + (bt1 n (2 * (2 * (2 * k) + 1)) + bt1 n (2 * (2 * (2 * k) + 1) + 1))) + ((bt1 n (2 * (2 * (2 * k + 1))) + bt1 n (2 * (2 * (2 * k + 1)) + 1)) + (bt1 n (2 * (2 * (2 * k + 1) + 1)) + bt1 n (2 * (2 * (2 * k + 1) + 1) + 1)))) 8 := by
    unfold hdB
    rw [e1, e2, e3.2]
  rw [ea]
  refine ⟨e4.1, e4.2.1, e4.2.2.1, e4.2.2.2.trans ?_⟩
  have a1 : cnt n.testBit 64 = cnt n.testBit 56 + cnt (fun k => n.testBit (56 + k)) 8 := cnt_add n.testBit 56 8
  have a2 : cnt n.testBit 56 = cnt n.testBit 48 + cnt (fun k => n.testBit (48 + k)) 8 := cnt_add n.testBit 48 8
  have a3 : cnt n.testBit 48 = cnt n.testBit 40 + cnt (fun k => n.testBit (40 + k)) 8 := cnt_add n.testBit 40 8
  have a4 : cnt n.testBit 40 = cnt n.testBit 32 + cnt (fun k => n.testBit (32 + k)) 8 := cnt_add n.testBit 32 8
  have a5 : cnt n.testBit 32 = cnt n.testBit 24 + cnt (fun k => n.testBit (24 + k)) 8 := cnt_add n.testBit 24 8
  have a6 : cnt n.testBit 24 = cnt n.testBit 16 + cnt (fun k => n.testBit (16 + k)) 8 := cnt_add n.testBit 16 8
  have a7 : cnt n.testBit 16 = cnt n.testBit 8 + cnt (fun k => n.testBit (8 + k)) 8 := cnt_add n.testBit 8 8
  have a8 : cnt n.testBit 8 = 0 + cnt (fun k => n.testBit (0 + k)) 8 := cnt_add n.testBit 0 8
  rw [cnt8] at a1 a2 a3 a4 a5 a6 a7 a8
  simp only [Nat.reduceMul, Nat.reduceAdd, Nat.zero_add] at a1 a2 a3 a4 a5 a6 a7 a8 ⊢
  omega
/-! ### the lowest bits of a word -/
theorem low_form {n t : Nat} (h0 : ∀ j, j < t → n.testBit j = false) (h1 : n.testBit t = true) : ∃ u, n = 2 ^ (t + 1) * u + 2 ^ t := by
  have hm : n % 2 ^ t = 0 := by
    apply Nat.eq_of_testBit_eq
    intro i
    rw [Nat.testBit_mod_two_pow, Nat.zero_testBit]
    by_cases hi : i < t
    · rw [h0 i hi]; simp
    · simp [hi]
  have h2 : n / 2 ^ t % 2 = 1 := by
    rw [Nat.testBit_eq_decide_div_mod_eq] at h1
    exact of_decide_eq_true h1
  refine ⟨n / 2 ^ t / 2, ?_⟩
  have e1 : n = 2 ^ t * (n / 2 ^ t) + n % 2 ^ t := (Nat.div_add_mod n (2 ^ t)).symm
  have e2 : n / 2 ^ t = 2 * (n / 2 ^ t / 2) + 1 := by omega
  generalize n / 2 ^ t / 2 = u at e2
  rw [hm, Nat.add_zero, e2] at e1
  rw [e1, Nat.pow_succ, Nat.mul_add, Nat.mul_one, Nat.mul_assoc]
/-- a word that isn't 0 has a lowest bit -/
theorem xB_low {x : Int64} (h : ¬ x = 0) : ∃ t, t < 64 ∧ xB x t = true ∧ ∀ j, j < t → xB x j = false := by
  obtain ⟨b, hb, hx⟩ := xB_nz h
  obtain ⟨t, ht, hm⟩ := pk_least (fun k => xB x k = true) ⟨b, hx⟩
  refine ⟨t, ?_, ht, fun j hj => ?_⟩
  · rcases Nat.lt_or_ge t 64 with q | q
    · exact q
    · rw [xB_big q] at ht; cases ht
  · cases hc : xB x j with
    | false => rfl
    | true => exact absurd hc (hm j hj)
theorem uN_one : uN 1 = 1 := rfl
/-- without its lowest bit -/
theorem xB_clr {x : Int64} {t : Nat} (ht : t < 64) (h1 : xB x t = true) (h0 : ∀ j, j < t → xB x j = false) (j : Nat) : xB (x &&& (x - 1)) j = (xB x j && decide (j ≠ t)) := by
  obtain ⟨u, hu⟩ := low_form (n := uN x) h0 h1
  have hp := Nat.two_pow_pos t
  have hlt := uN_lt x
  have hs : uN (x - 1) = 2 ^ (t + 1) * u + (2 ^ t - 1) := by
    rw [uN_sub, uN_one]
    have : uN x ≥ 1 := by omega
    omega
  have ha : uN (x &&& (x - 1)) = 2 ^ (t + 1) * u + 0 := by
    rw [uN_and, hs]
    conv => lhs; lhs; rw [hu]
    rw [and_cat (by rw [Nat.pow_succ]; omega) (by rw [Nat.pow_succ]; omega), Nat.and_self, Nat.and_two_pow_sub_one_eq_mod, Nat.mod_self]
  unfold xB
  rw [ha, Nat.testBit_two_pow_mul_add _ (Nat.two_pow_pos _)]
  by_cases hj : j < t + 1
  · rw [if_pos hj, Nat.zero_testBit]
    by_cases hj2 : j = t
    · simp [hj2]
    · have : (uN x).testBit j = false := h0 j (by omega)
      rw [this]
      rfl
  · rw [if_neg hj]
    have e : (uN x).testBit j = u.testBit (j - (t + 1)) := by
      conv => lhs; rw [hu]
      rw [Nat.testBit_two_pow_mul_add _ (by rw [Nat.pow_succ]; omega), if_neg hj]
    rw [e]
    have : decide (j ≠ t) = true := decide_eq_true (by omega)
    rw [this, Bool.and_true]
/-- the lowest bit alone, less one: the bits below it -/
theorem pop_low {x : Int64} {t : Nat} (ht : t < 64) (h1 : xB x t = true) (h0 : ∀ j, j < t → xB x j = false) : pop ((x &&& (-x)) - 1) = t := by
  obtain ⟨u, hu⟩ := low_form (n := uN x) h0 h1
  have hp := Nat.two_pow_pos t
  have hlt := uN_lt x
  have hpow : (18446744073709551616 : Nat) = 2 ^ (t + 1) * 2 ^ (63 - t) := by
    rw [← Nat.pow_add, show t + 1 + (63 - t) = 64 by omega]
  have hu2 : u < 2 ^ (63 - t) := by
    rcases Nat.lt_or_ge u (2 ^ (63 - t)) with q | q
    · exact q
    · have := Nat.mul_le_mul_left (2 ^ (t + 1)) q
      omega
  have hn : uN (-x) = 2 ^ (t + 1) * (2 ^ (63 - t) - (u + 1)) + 2 ^ t := by
    rw [uN_neg, Nat.mod_eq_of_lt (by omega), Nat.mul_sub, hpow, Nat.mul_succ]
    have : 2 ^ (t + 1) * u + 2 ^ (t + 1) ≤ 2 ^ (t + 1) * 2 ^ (63 - t) := by
      rw [← Nat.mul_succ]
      exact Nat.mul_le_mul_left _ hu2
    have e2 : 2 ^ (t + 1) = 2 * 2 ^ t := by rw [Nat.pow_succ, Nat.mul_comm]
    omega
  have ha : uN (x &&& (-x)) = 2 ^ t := by
    rw [uN_and, hn]
    conv => lhs; lhs; rw [hu]
    rw [and_cat (by rw [Nat.pow_succ]; omega) (by rw [Nat.pow_succ]; omega), Nat.and_self]
    have : u &&& (2 ^ (63 - t) - (u + 1)) = 0 := by
      apply Nat.eq_of_testBit_eq
      intro i
      rw [Nat.testBit_and, Nat.testBit_two_pow_sub_succ hu2, Nat.zero_testBit]
      cases u.testBit i <;> simp
    rw [this]
    omega
  have hm : uN ((x &&& (-x)) - 1) = 2 ^ t - 1 := by
    rw [uN_sub, uN_one, ha]
    have : 2 ^ t < 18446744073709551616 := by rw [← ha]; exact uN_lt _
    omega
  have hb : ∀ j, xB ((x &&& (-x)) - 1) j = decide (j < t) := fun j => by
    unfold xB
    rw [hm, Nat.testBit_two_pow_sub_one]
  unfold pop
  have e : (64 : Nat) = t + (64 - t) := by omega
  rw [e, cnt_add, cnt_zero (n := 64 - t) (fun k _ => by rw [hb]; exact decide_eq_false (by omega)), Nat.add_zero]
  have all : ∀ k, k ≤ t → cnt (xB ((x &&& (-x)) - 1)) k = k := by
    intro k
    induction k with
    | zero => intro _; rfl
    | succ k ih => intro hk; rw [cnt_t (by rw [hb]; exact decide_eq_true (by omega)), ih (by omega)]
  exact all t (Nat.le_refl t)
/-- k times without its lowest bit -/
def clr (x : Int64) : Nat → Int64
  | 0 => x
  | k + 1 => clr x k &&& (clr x k - 1)
theorem clr_ok (x : Int64) : ∀ k, k ≤ pop x → ∀ j, j < 64 → xB (clr x k) j = (xB x j && decide (k ≤ cnt (xB x) j))
  | 0, _, j, _ => by simp [clr]
  | k + 1, hk, j, hj => by
    have ih := clr_ok x k (by omega)
    obtain ⟨t, ht, hx, hc⟩ := cnt_hit (p := xB x) (i := k) (n := 64) (by unfold pop at hk; omega)
    have h1 : xB (clr x k) t = true := by rw [ih t ht, hx, hc]; simp
    have h0 : ∀ i, i < t → xB (clr x k) i = false := fun i hi => by
      rw [ih i (by omega)]
      cases hxi : xB x i with
      | false => rfl
      | true =>
        have := cnt_mono (xB x) (show i + 1 ≤ t from hi)
        rw [cnt_t hxi] at this
        have hlt : ¬ k ≤ cnt (xB x) i := by omega
        simp [hlt]
    show xB (clr x k &&& (clr x k - 1)) j = _
    rw [xB_clr ht h1 h0 j, ih j hj]
    cases hxj : xB x j with
    | false => rfl
    | true =>
      simp only [Bool.true_and]
      rcases Nat.lt_trichotomy j t with q | q | q
      · have := cnt_mono (xB x) (show j + 1 ≤ t from q)
        rw [cnt_t hxj] at this
        have a1 : ¬ k ≤ cnt (xB x) j := by omega
        have a2 : ¬ k + 1 ≤ cnt (xB x) j := by omega
        simp [a1, a2]
      · subst q
        simp [hc]
      · have := cnt_mono (xB x) (show t + 1 ≤ j from q)
        rw [cnt_t hx] at this
        have a1 : k ≤ cnt (xB x) j := by omega
        have a2 : k + 1 ≤ cnt (xB x) j := by omega
        have a3 : j ≠ t := by omega
        simp [a1, a2, a3]
/-- the bit that has k others below it -/
theorem clr_low {x : Int64} {k : Nat} (hk : k < pop x) : ∃ t, t < 64 ∧ xB x t = true ∧ cnt (xB x) t = k ∧ pop ((clr x k &&& (-(clr x k))) - 1) = t := by
  obtain ⟨t, ht, hx, hc⟩ := cnt_hit (p := xB x) (i := k) (n := 64) hk
  have ih := clr_ok x k (by omega)
  refine ⟨t, ht, hx, hc, pop_low ht (by rw [ih t ht, hx, hc]; simp) (fun i hi => ?_)⟩
  rw [ih i (by omega)]
  cases hxi : xB x i with
  | false => rfl
  | true =>
    have := cnt_mono (xB x) (show i + 1 ≤ t from hi)
    rw [cnt_t hxi] at this
    have hlt : ¬ k ≤ cnt (xB x) i := by omega
    simp [hlt]
end
section
/-! The JDK's bit count, by its own steps. -/
def shr (x : Int64) (k : Nat) : Int64 := (Int64.toUInt64 x >>> (Int64.toUInt64 (Int32.toInt64 (nI k)) &&& Int64.toUInt64 63)).toInt64
theorem shr_c : ∀ k, k < 64 → (Int64.toUInt64 (Int32.toInt64 (nI k)) &&& Int64.toUInt64 63).toNat % 64 = k := by decide +kernel
theorem uN_sk (x : Int64) {k : Nat} (hk : k < 64) : uN (shr x k) = uN x / 2 ^ k := by
  unfold shr
  rw [uN_shr, shr_c k hk]
def bs1 (x : Int64) : Int64 := x - (shr x 1 &&& 6148914691236517205)
def bs2 (x : Int64) : Int64 := (x &&& 3689348814741910323) + (shr x 2 &&& 3689348814741910323)
def bs3 (x : Int64) : Int64 := (x + shr x 4) &&& 1085102592571150095
def bs4 (x : Int64) : Int64 := x + shr x 8
def bs5 (x : Int64) : Int64 := x + shr x 16
def bs6 (x : Int64) : Int64 := x + shr x 32
def bcI (x : Int64) : Int32 := Int64.toInt32 (bs6 (bs5 (bs4 (bs3 (bs2 (bs1 x)))))) &&& nI 127
theorem i32_127 (x : Int64) : Int64.toInt32 x &&& nI 127 = nI (uN x % 128) := by
  rw [pk_and (Int64.toInt32 x) (m := nI 127) 7 (by decide)]
  congr 1
  have e : (Int64.toInt32 x).toBitVec.toNat = uN x % 2 ^ 32 := by
    rw [Int64.toBitVec_toInt32, BitVec.signExtend_eq_setWidth_of_le _ (by omega), BitVec.toNat_setWidth]
    rfl
  rw [e]
  omega
theorem bcI_pop (x : Int64) : bcI x = nI (pop x) := by
  have hx : uN x < 2 ^ 64 := uN_lt x
  have h1 := hd1_ok hx
  have z : ∀ k, 64 ≤ k → bt1 (uN x) k = 0 := fun k hk => bt1_big (Nat.lt_of_lt_of_le hx (Nat.pow_le_pow_right (by omega) hk))
  have l1 : ∀ k, bt1 (uN x) k ≤ 1 := fun k => by have := bt1_lt (uN x) k; omega
  have e1 : uN (bs1 x) = hd1 (uN x) := by
    unfold bs1
    rw [uN_sub, uN_and, uN_sk x (by omega), show uN 6148914691236517205 = 6148914691236517205 from rfl, show (2 : Nat) ^ 1 = 2 from rfl]
    have := h1.1
    unfold hd1
    omega
  have g2 : ∀ k, (fun k => bt1 (uN x) (2 * k) + bt1 (uN x) (2 * k + 1)) k ≤ 2 := fun k => by have := l1 (2 * k); have := l1 (2 * k + 1); show bt1 (uN x) (2 * k) + bt1 (uN x) (2 * k + 1) ≤ 2; omega
  have e2' := hd2_ok (g := fun k => bt1 (uN x) (2 * k) + bt1 (uN x) (2 * k + 1)) g2 (fun k hk => by rw [z (2 * k) (by omega), z (2 * k + 1) (by omega)])
  have g4 : ∀ k, (bt1 (uN x) (2 * (2 * k)) + bt1 (uN x) (2 * (2 * k) + 1)) + (bt1 (uN x) (2 * (2 * k + 1)) + bt1 (uN x) (2 * (2 * k + 1) + 1)) ≤ 4 := fun k => by
    have := l1 (2 * (2 * k)); have := l1 (2 * (2 * k) + 1); have := l1 (2 * (2 * k + 1)); have := l1 (2 * (2 * k + 1) + 1); omega
  have lt2 : hd2 (hd1 (uN x)) < 2 ^ 64 := by
    rw [h1.2, e2']
    exact fsm_lt (m := 4) (fun k => by have := g4 k; show _ < 16; omega) 16
  have e2 : uN (bs2 (bs1 x)) = hd2 (hd1 (uN x)) := by
    unfold bs2
    rw [uN_add, uN_and, uN_and, uN_sk _ (by omega), show uN 3689348814741910323 = 3689348814741910323 from rfl, e1, show (2 : Nat) ^ 2 = 4 from rfl]
    unfold hd2 at lt2 ⊢
    omega
  have e3' := hd3_ok (g := fun k => (bt1 (uN x) (2 * (2 * k)) + bt1 (uN x) (2 * (2 * k) + 1)) + (bt1 (uN x) (2 * (2 * k + 1)) + bt1 (uN x) (2 * (2 * k + 1) + 1))) g4
    (fun k hk => by rw [z (2 * (2 * k)) (by omega), z (2 * (2 * k) + 1) (by omega), z (2 * (2 * k + 1)) (by omega), z (2 * (2 * k + 1) + 1) (by omega)])
  have e3 : uN (bs3 (bs2 (bs1 x))) = hdB (uN x) := by
    unfold bs3 hdB
    rw [uN_and, uN_add, uN_sk _ (by omega), show uN 1085102592571150095 = 1085102592571150095 from rfl, e2]
    have := e3'.1
    rw [← e2', ← h1.2] at this
    unfold hd3
    rw [Nat.mod_eq_of_lt this]
  obtain ⟨b1, c1, d1, r1⟩ := hd_pop hx
  have e4 : uN (bs4 (bs3 (bs2 (bs1 x)))) = hdB (uN x) + hdB (uN x) / 256 := by
    unfold bs4
    rw [uN_add, uN_sk _ (by omega), e3]
    exact Nat.mod_eq_of_lt b1
  have e5 : uN (bs5 (bs4 (bs3 (bs2 (bs1 x))))) = hdB (uN x) + hdB (uN x) / 256 + (hdB (uN x) + hdB (uN x) / 256) / 65536 := by
    unfold bs5
    rw [uN_add, uN_sk _ (by omega), e4]
    exact Nat.mod_eq_of_lt c1
  have e6 : uN (bs6 (bs5 (bs4 (bs3 (bs2 (bs1 x)))))) = hdB (uN x) + hdB (uN x) / 256 + (hdB (uN x) + hdB (uN x) / 256) / 65536 + (hdB (uN x) + hdB (uN x) / 256 + (hdB (uN x) + hdB (uN x) / 256) / 65536) / 4294967296 := by
    unfold bs6
    rw [uN_add, uN_sk _ (by omega), e5]
    exact Nat.mod_eq_of_lt d1
  unfold bcI
  rw [i32_127, e6]
  exact congrArg nI r1
/-! What the class's methods answer, as functions: no machine here. -/
theorem ts_f {b : Bool} (h : ¬ b = true) : b = false := by cases b <;> first | rfl | exact absurd rfl h
theorem bcase (b : Bool) : b = false ∨ b = true := by cases b <;> simp
theorem ocase {α : Type} (o : Option α) : o = none ∨ ∃ q, o = some q := by cases o <;> simp
theorem i32_nlt {x y : Int32} (h : y ≤ x) : ¬ x < y := by
  rw [Int32.lt_iff_toInt_lt]
  rw [Int32.le_iff_toInt_le] at h
  omega
theorem i32_lt {x y : Int32} (h : ¬ y ≤ x) : x < y := by
  rw [Int32.lt_iff_toInt_lt]
  rw [Int32.le_iff_toInt_le] at h
  omega
/-- an array of references, asked at any int -/
def oAt (N : Nat) (mk : Nat → Option Nat) (x : Int32) : Option Nat := if blw x (nI N) = true then mk x.toNatClampNeg else none
theorem oAt_nI {N : Nat} {mk : Nat → Option Nat} {j : Nat} (hj : j < N) (hN : N < 2 ^ 31) : oAt N mk (nI j) = mk j := by
  unfold oAt
  rw [blw_nI hN (by omega), decide_eq_true hj, if_pos rfl, nI_clamp (by omega)]
theorem oAt_no {N : Nat} {mk : Nat → Option Nat} {x : Int32} (h : blw x (nI N) = false) : oAt N mk x = none := by
  unfold oAt
  rw [h]
  rfl
/-- the first n places of an array hold something -/
def upto (n : Nat) (ad : Nat → Nat) : Nat → Option Nat := fun i => if i < n then some (ad i) else none
theorem upto_t {n : Nat} {ad : Nat → Nat} {i : Nat} (h : i < n) : upto n ad i = some (ad i) := if_pos h
theorem upto_f {n : Nat} {ad : Nat → Nat} {i : Nat} (h : n ≤ i) : upto n ad i = none := if_neg (by omega)
theorem oAt_t {N n : Nat} {ad : Nat → Nat} {i : Nat} (hN : N < 2 ^ 31) (hn : n ≤ N) (h : i < n) : oAt N (upto n ad) (nI i) = some (ad i) := (oAt_nI (by omega) hN).trans (upto_t h)
theorem oAt_f {N n : Nat} {ad : Nat → Nat} {i : Nat} (hN : N < 2 ^ 31) (hi : i < N) (h : n ≤ i) : oAt N (upto n ad) (nI i) = none := (oAt_nI hi hN).trans (upto_f h)
def shl (x : Int64) (k : Nat) : Int64 := x <<< (Int32.toInt64 (nI k) &&& 63)
/-! ### the condition book -/
/-- the book of conditions, as its cells lie -/
def CoB (G : GG) (L : List Nat) (f : Nat → va_E) (cb mA gA n : Nat) (ad wa kd : Nat → Nat) (ka kb kc : Nat → Int32) (wd : Nat → Nat → Int64) (mm : Nat → Bool) : Prop :=
  n ≤ 60 ∧ Lk L f cb (.inr (1, [.ref mA, .ref gA, .int (nI n)])) ∧ Lk L f mA (.inl (G.2 2, 60, .inr (.inr (.inr (.inr (upto n ad)))))) ∧ Lk L f gA (.inl (G.2 1, 64, .inl (fun k => bI (mm k)))) ∧
  ∀ i, i < n → Lk L f (ad i) (.inr (0, [.int (nI (kd i)), .int (ka i), .int (kb i), .int (kc i), .ref (wa i)])) ∧ Lk L f (wa i) (.inl (G.2 0, 96, .inr (.inl (wd i))))
def vfR (a b : Nat) : Nat → Int64
  | 0 => 0
  | i + 1 => if a ≤ i ∧ i ≤ b then vfR a b i ||| shl 72340172838076673 i else vfR a b i
def two3 (x y z : Int64) : Int64 := ((x &&& y) ||| (x &&& z)) ||| (y &&& z)
def prW (w a : Nat) : Int64 := if w % 3 = a / 2 then shl 4294967295 (a % 2 * 4 * 8) else 0
/-- a condition's word, out of the words of those before it -/
def wrd (mm : Nat → Bool) (wd : Nat → Nat → Int64) (k a b c w : Nat) : Int64 :=
  if k = 0 then (if w / 12 = a then -1 else 0)
  else if k = 1 then (if mm (w / 12 * 8 + a) = true then -1 else 0)
  else if k = 2 then (if w % 12 / 3 = a then -1 else 0)
  else if k = 3 then prW w a
  else if k = 4 then shl 1095216660735 (a * 8)
  else if k = 5 then vfR a b 8
  else if k = 6 then wd a w ^^^ (-1)
  else if k = 7 then wd a w &&& wd b w
  else if k = 8 then wd a w ||| wd b w
  else if k = 9 then -1
  else two3 (wd a w) (wd b w) (wd c w)
/-- the numbers of a condition, as they may be where n others stand -/
def okC (n k : Nat) (ka kb kc : Int32) (a b c : Nat) : Prop :=
  k ≤ 10 ∧ (k ≠ 9 → ka = nI a) ∧ (k = 5 ∨ k = 7 ∨ k = 8 ∨ k = 10 → kb = nI b) ∧ (k = 10 → kc = nI c) ∧
  (k = 0 → a < 8) ∧ (k = 1 → a < 8) ∧ (k = 2 → a < 4) ∧ (k = 3 → a < 6) ∧ (k = 4 → a < 4) ∧ (k = 5 → a ≤ b ∧ b < 8) ∧ (k = 6 → a < n) ∧ (k = 7 ∨ k = 8 → a < n ∧ b < n) ∧ (k = 10 → a < n ∧ b < n ∧ c < n)
/-- canBe -/
def cOK (n : Nat) (k a b c : Int32) : Bool :=
  if k = nI 0 then blw a (nI 8) else if k = nI 1 then blw a (nI 8) else if k = nI 2 then blw a (nI 4) else if k = nI 3 then blw a (nI 6) else if k = nI 4 then blw a (nI 4)
  else if k = nI 5 then (blw a (nI 8) && (blw b (nI 8) && decide (a ≤ b))) else if k = nI 6 then blw a (nI n) else if k = nI 7 then (blw a (nI n) && blw b (nI n)) else if k = nI 8 then (blw a (nI n) && blw b (nI n))
  else if k = nI 9 then true else if k = nI 10 then (blw a (nI n) && (blw b (nI n) && blw c (nI n))) else false
theorem k11 (k : Int32) : k = nI 0 ∨ k = nI 1 ∨ k = nI 2 ∨ k = nI 3 ∨ k = nI 4 ∨ k = nI 5 ∨ k = nI 6 ∨ k = nI 7 ∨ k = nI 8 ∨ k = nI 9 ∨ k = nI 10 ∨ (k.toInt < 0 ∨ 10 < k.toInt) := by
  by_cases h : k.toInt < 0 ∨ 10 < k.toInt
  · exact Or.inr (Or.inr (Or.inr (Or.inr (Or.inr (Or.inr (Or.inr (Or.inr (Or.inr (Or.inr (Or.inr h))))))))))
  · have e : ∀ j : Nat, j < 11 → k.toInt = (j : Int) → k = nI j := fun j hj h2 => Int32.toInt_inj.mp (by rw [h2, nI_toInt (by omega)])
    have h3 : k.toInt = ((0 : Nat) : Int) ∨ k.toInt = ((1 : Nat) : Int) ∨ k.toInt = ((2 : Nat) : Int) ∨ k.toInt = ((3 : Nat) : Int) ∨ k.toInt = ((4 : Nat) : Int) ∨ k.toInt = ((5 : Nat) : Int) ∨ k.toInt = ((6 : Nat) : Int) ∨ k.toInt = ((7 : Nat) : Int) ∨ k.toInt = ((8 : Nat) : Int) ∨ k.toInt = ((9 : Nat) : Int) ∨ k.toInt = ((10 : Nat) : Int) := by omega
    rcases h3 with q | q | q | q | q | q | q | q | q | q | q
    · exact Or.inl (e 0 (by omega) q)
    · exact Or.inr (Or.inl (e 1 (by omega) q))
    · exact Or.inr (Or.inr (Or.inl (e 2 (by omega) q)))
    · exact Or.inr (Or.inr (Or.inr (Or.inl (e 3 (by omega) q))))
    · exact Or.inr (Or.inr (Or.inr (Or.inr (Or.inl (e 4 (by omega) q)))))
    · exact Or.inr (Or.inr (Or.inr (Or.inr (Or.inr (Or.inl (e 5 (by omega) q))))))
    · exact Or.inr (Or.inr (Or.inr (Or.inr (Or.inr (Or.inr (Or.inl (e 6 (by omega) q)))))))
    · exact Or.inr (Or.inr (Or.inr (Or.inr (Or.inr (Or.inr (Or.inr (Or.inl (e 7 (by omega) q))))))))
    · exact Or.inr (Or.inr (Or.inr (Or.inr (Or.inr (Or.inr (Or.inr (Or.inr (Or.inl (e 8 (by omega) q)))))))))
    · exact Or.inr (Or.inr (Or.inr (Or.inr (Or.inr (Or.inr (Or.inr (Or.inr (Or.inr (Or.inl (e 9 (by omega) q))))))))))
    · exact Or.inr (Or.inr (Or.inr (Or.inr (Or.inr (Or.inr (Or.inr (Or.inr (Or.inr (Or.inr (Or.inl (e 10 (by omega) q)))))))))))
theorem k11_no {k : Int32} (h : k.toInt < 0 ∨ 10 < k.toInt) {j : Nat} (hj : j < 11) : ¬ k = nI j := by
  intro q
  rw [q, nI_toInt (by omega)] at h
  omega
/-! ### the rule book -/
/-- the book of rules, as its cells lie: place by place -/
def RuB (G : GG) (L : List Nat) (f : Nat → va_E) (rb rA n : Nat) (rad ca wa rk nu : Nat → Nat) (dn : Nat → Bool) (ww : Nat → Nat → Int64) : Prop :=
  n ≤ 20 ∧ Lk L f rb (.inr (3, [.ref rA, .int (nI n)])) ∧ Lk L f rA (.inl (G.2 3, 20, .inr (.inr (.inr (.inr (upto n rad)))))) ∧
  ∀ q, q < n → rk q < 10 ∧ nu q < 20 ∧ Lk L f (rad q) (.inr (2, [.int (nI (rk q)), .int (bI (dn q)), .ref (ca q), .int (nI (nu q))])) ∧
    (∃ k0 k1 k2 k3 : Int32, Lk L f (ca q) (.inr (0, [.int k0, .int k1, .int k2, .int k3, .ref (wa q)]))) ∧ Lk L f (wa q) (.inl (G.2 0, 96, .inr (.inl (ww q))))
def gob (r1 : Nat) (d1 : Bool) (r2 : Nat) (d2 : Bool) : Bool := decide (r1 < r2) || (decide (r1 = r2) && (d1 && !d2))
def rkB (r : Nat) (d t : Bool) : Nat := if (t && !d) = true then r + 1 else r
/-- the first of k places from q on -/
def fst0 (P : Nat → Bool) : Nat → Nat → Option Nat
  | 0, _ => none
  | k + 1, q => if P q = true then some q else fst0 P k (q + 1)
def plN (o : Option Nat) : Int32 := match o with
  | none => -1
  | some q => nI q
/-- those that are allowed, from place q on, of the open ones -/
def alF (ww : Nat → Nat → Int64) (dn : Nat → Bool) (w : Nat) : Nat → Nat → Int64 → Int64 → Int64
  | 0, _, _, al => al
  | k + 1, q, left, al => if left = 0 then al else alF ww dn w k (q + 1) (left &&& ((left &&& ww q w) ^^^ (-1))) (al ||| (if dn q = true then 0 else left &&& ww q w))
/-- what is left behind the places from q on -/
def deF (ww : Nat → Nat → Int64) (w : Nat) : Nat → Nat → Int64 → Int64
  | 0, _, left => left
  | k + 1, q, left => if left = 0 then left else deF ww w k (q + 1) (left &&& (ww q w ^^^ (-1)))
def tuF (ww : Nat → Nat → Int64) (dn : Nat → Bool) (n q w : Nat) : Int64 :=
  if dn q = true then alF ww dn w (n - (q + 1)) (q + 1) (deF ww w q 0 (ww q w)) 0
  else deF ww w q 0 (ww q w) &&& (alF ww dn w (n - (q + 1)) (q + 1) (deF ww w q 0 (ww q w)) 0 ^^^ (-1))
def idF (ww : Nat → Nat → Int64) (rk : Nat → Nat) (dn : Nat → Bool) (t : Bool) (w : Nat) : Nat → Nat → Int64 → Nat → Nat
  | 0, _, left, r => if left = 0 then r else 10
  | k + 1, q, left, r => if left = 0 then r else idF ww rk dn t w k (q + 1) (left &&& (ww q w ^^^ (-1))) (rkB (rk q) (dn q) t)
def isNo (n : Nat) (nu : Nat → Nat) (x : Int32) (q : Nat) : Bool := decide (q < n ∧ nI (nu q) = x)
theorem isNo_t {n : Nat} {nu : Nat → Nat} {x : Int32} {q : Nat} (h : q < n) (e : nI (nu q) = x) : isNo n nu x q = true := decide_eq_true ⟨h, e⟩
theorem isNo_f1 {n : Nat} {nu : Nat → Nat} {x : Int32} {q : Nat} (h : ¬ q < n) : ¬ isNo n nu x q = true := fun z => h (of_decide_eq_true z).1
theorem isNo_f2 {n : Nat} {nu : Nat → Nat} {x : Int32} {q : Nat} (h : ¬ nI (nu q) = x) : ¬ isNo n nu x q = true := fun z => h (of_decide_eq_true z).2
def isPl (n r0 : Nat) (d0 : Bool) (rk : Nat → Nat) (dn : Nat → Bool) (q : Nat) : Bool := decide (n ≤ q) || gob r0 d0 (rk q) (dn q)
theorem isPl_t1 {n r0 : Nat} {d0 : Bool} {rk : Nat → Nat} {dn : Nat → Bool} {q : Nat} (h : n ≤ q) : isPl n r0 d0 rk dn q = true := by unfold isPl; rw [decide_eq_true h]; rfl
theorem isPl_t2 {n r0 : Nat} {d0 : Bool} {rk : Nat → Nat} {dn : Nat → Bool} {q : Nat} (h : gob r0 d0 (rk q) (dn q) = true) : isPl n r0 d0 rk dn q = true := by unfold isPl; rw [h, Bool.or_true]
theorem isPl_f {n r0 : Nat} {d0 : Bool} {rk : Nat → Nat} {dn : Nat → Bool} {q : Nat} (h : q < n) (hg : gob r0 d0 (rk q) (dn q) = false) : ¬ isPl n r0 d0 rk dn q = true := by
  unfold isPl
  rw [hg, decide_eq_false (by omega)]
  decide
def plF (o : Option Nat) : Int32 := nI (o.getD 20)
def hit (ww : Nat → Nat → Int64) (a q : Nat) : Bool := decide (¬ ww q (a / 64) &&& shl 1 (a % 64) = 0)
theorem hit_t {ww : Nat → Nat → Int64} {a q : Nat} (h : ¬ ww q (a / 64) &&& shl 1 (a % 64) = 0) : hit ww a q = true := decide_eq_true h
theorem hit_f {ww : Nat → Nat → Int64} {a q : Nat} (h : ww q (a / 64) &&& shl 1 (a % 64) = 0) : ¬ hit ww a q = true := fun z => of_decide_eq_true z h
/-! ### the desk -/
def bpos (x : Int64) (k : Nat) : Nat := pop ((clr x k &&& (-(clr x k))) - 1)
def sumP (g : Nat → Int64) : Nat → Nat
  | 0 => 0
  | k + 1 => sumP g k + pop (g k)
def onR (g : Nat → Int32) (o : Option Nat) : Int32 := match o with
  | none => -1
  | some i => g i
def inN (n : Nat) (x : Int32) : Option Nat := if blw x (nI n) = true then some x.toNatClampNeg else none
theorem inN_t {n i : Nat} (h : i < n) (hn : n < 2 ^ 31) : inN n (nI i) = some i := by
  unfold inN
  rw [blw_nI hn (by omega), decide_eq_true h, if_pos rfl, nI_clamp (by omega)]
theorem inN_f {n : Nat} {x : Int32} (h : blw x (nI n) = false) : inN n x = none := by
  unfold inN
  rw [h]
  rfl
theorem at60 {n : Nat} {ad : Nat → Nat} (hn : n ≤ 60) (x : Int32) : (∃ i, i < n ∧ x = nI i) ∨ (blw x (nI n) = false ∧ oAt 60 (upto n ad) x = none) := by
  cases hb : blw x (nI n) with
  | true =>
    obtain ⟨i, hi, e⟩ := blw_of (by omega) hb
    exact Or.inl ⟨i, hi, e⟩
  | false =>
    refine Or.inr ⟨rfl, ?_⟩
    cases h6 : blw x (nI 60) with
    | false => exact oAt_no h6
    | true =>
      obtain ⟨j, hj, e⟩ := blw_of (by omega) h6
      subst e
      refine oAt_f (by omega) hj ?_
      rw [blw_nI (by omega) (by omega)] at hb
      have := of_decide_eq_false hb
      omega
def askR (g : Nat → Int64) : Nat → Nat → Nat → Int32
  | 0, _, _ => -2
  | k + 1, w, left => if left < pop (g w) then nI (w * 64 + bpos (g w) left) else askR g k (w + 1) (left - pop (g w))
def askY (g : Nat → Int64) (y : Int32) : Int32 := if y < 0 then -2 else askR g 96 0 y.toNatClampNeg
def winR (g h : Nat → Int64) : Nat → Nat → Int32
  | 0, _ => nI 1
  | k + 1, w => if g w &&& (h w ^^^ (-1)) = 0 then winR g h k (w + 1) else nI 0
def maxR (g : Nat → Nat) : Nat → Nat
  | 0 => 0
  | k + 1 => max (maxR g k) (g k)
theorem maxR_le {g : Nat → Nat} (h : ∀ j, g j ≤ 10) : ∀ k, maxR g k ≤ 10
  | 0 => Nat.zero_le _
  | k + 1 => Nat.max_le.mpr ⟨maxR_le h k, h k⟩
theorem nI_max {a b : Nat} (ha : a ≤ 10) (hb : b ≤ 10) : (if nI a < nI b then nI b else nI a) = nI (max a b) := by
  by_cases h : a < b
  · rw [if_pos (nI_lt h (by omega)), Nat.max_eq_right (by omega)]
  · rw [if_neg (nI_nlt (by omega) (by omega)), Nat.max_eq_left (by omega)]
theorem idF_le0 {ww : Nat → Nat → Int64} {rk : Nat → Nat} {dn : Nat → Bool} {t : Bool} {w n : Nat} (h : ∀ q, q < n → rk q < 10) : ∀ (k q : Nat) (left : Int64) (r : Nat), q + k ≤ n → r ≤ 10 → idF ww rk dn t w k q left r ≤ 10
  | 0, q, left, r, _, hr => by
    show (if left = 0 then r else 10) ≤ 10
    split <;> omega
  | k + 1, q, left, r, hq, hr => by
    show (if left = 0 then r else _) ≤ 10
    split
    · exact hr
    · refine idF_le0 h k (q + 1) _ _ (by omega) ?_
      have := h q (by omega)
      unfold rkB
      split <;> omega
theorem idF_le {ww : Nat → Nat → Int64} {rk : Nat → Nat} {dn : Nat → Bool} {t : Bool} {w n : Nat} {op : Int64} (_ : n ≤ 20) (h : ∀ q, q < n → rk q < 10) : idF ww rk dn t w n 0 op 0 ≤ 10 := idF_le0 h n 0 op 0 (by omega) (by omega)
def apR (D : Nat → Int64) (u : Nat) : Nat → Nat → Int32
  | 0, _ => -2
  | k + 1, i => if D i = 0 then apR D u k (i + 1) else nI ((u * 12 + i) * 64 + bpos (D i) 0)
def mayR (nu : Nat → Nat) (dn : Nat → Bool) (wh : Nat) (o : Option Nat) : Int32 :=
  if wh = 1 then (match o with | none => -2 | some q => nI (nu q)) else (match o with | none => nI 0 | some q => if dn q = true then nI 0 else nI 1)
def aNo (u gr pr kl v : Nat) : Nat := (((u * 4 + gr) * 6 + pr) * 4 + kl) * 8 + v
theorem fst0_t {P : Nat → Bool} : ∀ {k q0 q : Nat}, fst0 P k q0 = some q → P q = true ∧ q < q0 + k
  | 0, q0, q, h => by cases h
  | k + 1, q0, q, h => by
    by_cases hp : P q0 = true
    · have e : fst0 P (k + 1) q0 = some q0 := if_pos hp
      rw [e] at h
      cases h
      exact ⟨hp, by omega⟩
    · have e : fst0 P (k + 1) q0 = fst0 P k (q0 + 1) := if_neg hp
      rw [e] at h
      obtain ⟨h1, h2⟩ := fst0_t h
      exact ⟨h1, by omega⟩
theorem nI_m1 {n : Nat} (h : n < 2 ^ 31) : ¬ nI n = -1 := by
  intro q
  have a := nI_toInt h
  rw [q] at a
  have b : (-1 : Int32).toInt = -1 := by decide
  omega
theorem fst0_hit {P : Nat → Bool} {k q : Nat} (h : P q = true) : fst0 P (k + 1) q = some q := if_pos h
end
section
/-! What the class's answers mean, ask by ask. An ask is a number below 6144: bit q % 64 of word q / 64. -/
/-- a word's bit, ask by ask -/
def aB (g : Nat → Int64) (q : Nat) : Bool := xB (g (q / 64)) (q % 64)
theorem aB_at (g : Nat → Int64) {w b : Nat} (hb : b < 64) : aB g (64 * w + b) = xB (g w) b := by
  unfold aB
  rw [show (64 * w + b) / 64 = w by omega, show (64 * w + b) % 64 = b by omega]
theorem sumP_cnt (g : Nat → Int64) : ∀ k, sumP g k = cnt (aB g) (64 * k)
  | 0 => rfl
  | k + 1 => by
    show sumP g k + pop (g k) = cnt (aB g) (64 * k + 64)
    rw [cnt_add, sumP_cnt g k]
    unfold pop
    rw [cnt_congr (q := fun j => aB g (64 * k + j)) (fun j hj => (aB_at g hj).symm)]
theorem askR_ok (g : Nat → Int64) : ∀ (k w left : Nat), w + k = 96 →
    (∃ q, q < 6144 ∧ aB g q = true ∧ cnt (aB g) q = cnt (aB g) (64 * w) + left ∧ askR g k w left = nI q) ∨ (cnt (aB g) 6144 ≤ cnt (aB g) (64 * w) + left ∧ askR g k w left = -2)
  | 0, w, left, hw => by
    refine Or.inr ⟨?_, rfl⟩
    rw [show w = 96 by omega]
    exact Nat.le_add_right _ _
  | k + 1, w, left, hw => by
    have hs : cnt (aB g) (64 * (w + 1)) = cnt (aB g) (64 * w) + pop (g w) := by
      rw [← sumP_cnt, ← sumP_cnt]
      rfl
    by_cases hl : left < pop (g w)
    · have e : askR g (k + 1) w left = nI (w * 64 + bpos (g w) left) := if_pos hl
      obtain ⟨t, ht, hx, hc, hp⟩ := clr_low hl
      refine Or.inl ⟨64 * w + t, by omega, by rw [aB_at g ht]; exact hx, ?_, ?_⟩
      · rw [cnt_add, cnt_congr (q := xB (g w)) (fun j hj => aB_at g (show j < 64 by omega)), hc]
      · rw [e, show bpos (g w) left = t from hp, Nat.mul_comm]
    · have e : askR g (k + 1) w left = askR g k (w + 1) (left - pop (g w)) := if_neg hl
      rw [e]
      rcases askR_ok g k (w + 1) (left - pop (g w)) (by omega) with ⟨q, h1, h2, h3, h4⟩ | ⟨h1, h2⟩
      · exact Or.inl ⟨q, h1, h2, by rw [h3, hs]; omega, h4⟩
      · refine Or.inr ⟨?_, h2⟩
        rw [hs] at h1
        omega
theorem winR_ok (g h : Nat → Int64) : ∀ (k w : Nat), w + k = 96 → ((∀ q, 64 * w ≤ q → q < 6144 → aB g q = true → aB h q = true) ∧ winR g h k w = nI 1) ∨ ((∃ q, 64 * w ≤ q ∧ q < 6144 ∧ aB g q = true ∧ aB h q = false) ∧ winR g h k w = nI 0)
  | 0, w, hw => Or.inl ⟨fun q h1 h2 => by omega, rfl⟩
  | k + 1, w, hw => by
    by_cases hz : g w &&& (h w ^^^ (-1)) = 0
    · have e : winR g h (k + 1) w = winR g h k (w + 1) := if_pos hz
      rw [e]
      rcases winR_ok g h k (w + 1) (by omega) with ⟨h1, h2⟩ | ⟨⟨q, h1, h2⟩, h3⟩
      · refine Or.inl ⟨fun q hq hq2 hg => ?_, h2⟩
        by_cases hq3 : 64 * (w + 1) ≤ q
        · exact h1 q hq3 hq2 hg
        · obtain ⟨b, rfl⟩ : ∃ b, q = 64 * w + b := ⟨q - 64 * w, by omega⟩
          have hb : b < 64 := by omega
          rw [aB_at _ hb] at hg ⊢
          have := xB_z.mp hz b hb
          rw [xB_and, hg, xB_not _ hb] at this
          cases hh : xB (h w) b with
          | true => rfl
          | false => rw [hh] at this; cases this
      · exact Or.inr ⟨⟨q, by omega, h2⟩, h3⟩
    · have e : winR g h (k + 1) w = nI 0 := if_neg hz
      refine Or.inr ⟨?_, e⟩
      obtain ⟨b, hb, hx⟩ := xB_nz hz
      rw [xB_and, xB_not _ hb] at hx
      refine ⟨64 * w + b, by omega, by omega, ?_, ?_⟩
      · rw [aB_at _ hb]
        cases hg : xB (g w) b with
        | true => rfl
        | false => rw [hg] at hx; cases hx
      · rw [aB_at _ hb]
        cases hh : xB (h w) b with
        | false => rfl
        | true => rw [hh] at hx; simp at hx
/-! ### the rules, place by place -/
theorem alF_ok (ww : Nat → Nat → Int64) (dn : Nat → Bool) (w : Nat) {b : Nat} (hb : b < 64) : ∀ (k q : Nat) (left al : Int64),
    xB (alF ww dn w k q left al) b = (xB al b || (xB left b && (match fst0 (fun j => xB (ww j w) b) k q with | none => false | some j => !dn j)))
  | 0, q, left, al => by
    show xB al b = (xB al b || (xB left b && false))
    rw [Bool.and_false, Bool.or_false]
  | k + 1, q, left, al => by
    by_cases hz : left = 0
    · have e : alF ww dn w (k + 1) q left al = al := if_pos hz
      rw [e, hz, xB_0, Bool.false_and, Bool.or_false]
    · have e : alF ww dn w (k + 1) q left al = alF ww dn w k (q + 1) (left &&& ((left &&& ww q w) ^^^ (-1))) (al ||| (if dn q = true then 0 else left &&& ww q w)) := if_neg hz
      rw [e, alF_ok ww dn w hb k (q + 1), xB_or, xB_and, xB_not _ hb, xB_and]
      have hi : xB (if dn q = true then 0 else left &&& ww q w) b = ((!dn q) && (xB left b && xB (ww q w) b)) := by
        cases dn q with
        | true => exact xB_0 b
        | false => exact xB_and _ _ b
      rw [hi]
      cases hx : xB (ww q w) b with
      | true =>
        have e2 : fst0 (fun j => xB (ww j w) b) (k + 1) q = some q := if_pos hx
        rw [e2]
        show _ = (xB al b || (xB left b && (!dn q)))
        cases xB al b <;> cases xB left b <;> cases dn q <;> rfl
      | false =>
        have e2 : fst0 (fun j => xB (ww j w) b) (k + 1) q = fst0 (fun j => xB (ww j w) b) k (q + 1) := if_neg (fun z => by rw [show (fun j => xB (ww j w) b) q = false from hx] at z; cases z)
        rw [e2]
        cases xB al b <;> cases xB left b <;> cases dn q <;> rfl
theorem deF_ok (ww : Nat → Nat → Int64) (w : Nat) {b : Nat} (hb : b < 64) : ∀ (k q : Nat) (left : Int64),
    xB (deF ww w k q left) b = (xB left b && (fst0 (fun j => xB (ww j w) b) k q).isNone)
  | 0, q, left => by
    show xB left b = (xB left b && true)
    rw [Bool.and_true]
  | k + 1, q, left => by
    by_cases hz : left = 0
    · have e : deF ww w (k + 1) q left = left := if_pos hz
      rw [e, hz, xB_0, Bool.false_and]
    · have e : deF ww w (k + 1) q left = deF ww w k (q + 1) (left &&& (ww q w ^^^ (-1))) := if_neg hz
      rw [e, deF_ok ww w hb k (q + 1), xB_and, xB_not _ hb]
      cases hx : xB (ww q w) b with
      | true =>
        have e2 : fst0 (fun j => xB (ww j w) b) (k + 1) q = some q := if_pos hx
        rw [e2]
        cases xB left b <;> rfl
      | false =>
        have e2 : fst0 (fun j => xB (ww j w) b) (k + 1) q = fst0 (fun j => xB (ww j w) b) k (q + 1) := if_neg (fun z => by rw [show (fun j => xB (ww j w) b) q = false from hx] at z; cases z)
        rw [e2]
        cases xB left b <;> rfl
theorem fst0_n {P : Nat → Bool} : ∀ {k q0 : Nat}, fst0 P k q0 = none → ∀ q, q0 ≤ q → q < q0 + k → P q = false
  | 0, q0, _, q, h1, h2 => by omega
  | k + 1, q0, h, q, h1, h2 => by
    by_cases hp : P q0 = true
    · have e : fst0 P (k + 1) q0 = some q0 := if_pos hp
      rw [e] at h
      cases h
    · have e : fst0 P (k + 1) q0 = fst0 P k (q0 + 1) := if_neg hp
      rw [e] at h
      by_cases hq : q = q0
      · rw [hq]; exact ts_f hp
      · exact fst0_n h q (by omega) (by omega)
theorem fst0_s {P : Nat → Bool} : ∀ {k q0 q : Nat}, fst0 P k q0 = some q → q0 ≤ q ∧ q < q0 + k ∧ P q = true ∧ ∀ j, q0 ≤ j → j < q → P j = false
  | 0, q0, q, h => by cases h
  | k + 1, q0, q, h => by
    by_cases hp : P q0 = true
    · have e : fst0 P (k + 1) q0 = some q0 := if_pos hp
      rw [e] at h
      cases h
      exact ⟨Nat.le_refl _, by omega, hp, fun j h1 h2 => by omega⟩
    · have e : fst0 P (k + 1) q0 = fst0 P k (q0 + 1) := if_neg hp
      rw [e] at h
      obtain ⟨h1, h2, h3, h4⟩ := fst0_s h
      refine ⟨by omega, by omega, h3, fun j h5 h6 => ?_⟩
      by_cases hj : j = q0
      · rw [hj]; exact ts_f hp
      · exact h4 j (by omega) h6
theorem fst0_of {P : Nat → Bool} {k q0 q : Nat} (h1 : q0 ≤ q) (h2 : q < q0 + k) (h3 : P q = true) (h4 : ∀ j, q0 ≤ j → j < q → P j = false) : fst0 P k q0 = some q := by
  cases h : fst0 P k q0 with
  | none => rw [fst0_n h q h1 h2] at h3; cases h3
  | some r =>
    obtain ⟨a1, a2, a3, a4⟩ := fst0_s h
    rcases Nat.lt_trichotomy q r with z | z | z
    · rw [a4 q h1 z] at h3; cases h3
    · rw [z]
    · rw [h4 r a1 z] at a3; cases a3
theorem fst0_no {P : Nat → Bool} {k q0 : Nat} (h : ∀ j, q0 ≤ j → j < q0 + k → P j = false) : fst0 P k q0 = none := by
  cases e : fst0 P k q0 with
  | none => rfl
  | some r =>
    obtain ⟨a1, a2, a3, -⟩ := fst0_s e
    rw [h r a1 a2] at a3
    cases a3
theorem fst0_congr {P Q : Nat → Bool} {k q0 : Nat} (h : ∀ j, q0 ≤ j → j < q0 + k → P j = Q j) : fst0 P k q0 = fst0 Q k q0 := by
  cases e : fst0 Q k q0 with
  | none => exact fst0_no (fun j h1 h2 => by rw [h j h1 h2]; exact fst0_n e j h1 h2)
  | some r =>
    obtain ⟨a1, a2, a3, a4⟩ := fst0_s e
    exact fst0_of a1 a2 (by rw [h r a1 a2]; exact a3) (fun j h1 h2 => by rw [h j h1 (by omega)]; exact a4 j h1 h2)
/-- a single bit -/
theorem xB_one : ∀ b, b < 64 → ∀ j, j < 64 → xB (shl 1 b) j = decide (j = b) := by decide +kernel
theorem hit_ok (ww : Nat → Nat → Int64) (a q : Nat) : hit ww a q = aB (ww q) a := by
  have hb : a % 64 < 64 := Nat.mod_lt _ (by omega)
  unfold hit aB
  cases hx : xB (ww q (a / 64)) (a % 64) with
  | true =>
    apply decide_eq_true
    intro h
    have := xB_z.mp h (a % 64) hb
    rw [xB_and, hx, xB_one _ hb _ hb] at this
    simp at this
  | false =>
    apply decide_eq_false
    intro h
    apply h
    refine xB_z.mpr (fun b h1 => ?_)
    rw [xB_and, xB_one _ hb _ h1]
    by_cases e : b = a % 64
    · rw [e, hx]; rfl
    · rw [decide_eq_false e, Bool.and_false]
/-! A condition's word, ask by ask: what the document says of its kind. -/
def hK (mm : Nat → Bool) (h : Nat → Nat → Bool) (k a b c q : Nat) : Bool :=
  if k = 0 then decide (q / 768 = a)
  else if k = 1 then mm (q / 768 * 8 + a)
  else if k = 2 then decide (q / 192 % 4 = a)
  else if k = 3 then decide (q / 32 % 6 = a)
  else if k = 4 then decide (q / 8 % 4 = a)
  else if k = 5 then decide (a ≤ q % 8 ∧ q % 8 ≤ b)
  else if k = 6 then !h a q
  else if k = 7 then (h a q && h b q)
  else if k = 8 then (h a q || h b q)
  else if k = 9 then true
  else ((h a q && h b q) || (h a q && h c q)) || (h b q && h c q)
theorem xB_vf : ∀ a, a < 8 → ∀ b, b < 8 → ∀ j, j < 64 → xB (vfR a b 8) j = decide (a ≤ j % 8 ∧ j % 8 ≤ b) := by decide +kernel
theorem xB_cls : ∀ a, a < 4 → ∀ j, j < 64 → xB (shl 1095216660735 (a * 8)) j = decide (j / 8 % 4 = a) := by decide +kernel
theorem xB_prd : ∀ e, e < 2 → ∀ j, j < 64 → xB (shl 4294967295 (e * 4 * 8)) j = decide (j / 32 = e) := by decide +kernel
theorem xB_if {P : Prop} [Decidable P] {b : Nat} (hb : b < 64) : xB (if P then -1 else 0) b = decide P := by
  by_cases h : P
  · rw [if_pos h, xB_m1 b hb, decide_eq_true h]
  · rw [if_neg h, xB_0, decide_eq_false h]
theorem wrd_ok {mm : Nat → Bool} {wd : Nat → Nat → Int64} {n k a b c : Nat} {xa xb xc : Int32} (ho : okC n k xa xb xc a b c) {w j : Nat} (hj : j < 64) : xB (wrd mm wd k a b c w) j = hK mm (fun i => aB (wd i)) k a b c (64 * w + j) := by
  obtain ⟨hk, -, -, -, h0, h1, h2, h3, h4, h5, -, -, -⟩ := ho
  have hat : ∀ i, aB (wd i) (64 * w + j) = xB (wd i w) j := fun i => aB_at (wd i) hj
  rcases (show k = 0 ∨ k = 1 ∨ k = 2 ∨ k = 3 ∨ k = 4 ∨ k = 5 ∨ k = 6 ∨ k = 7 ∨ k = 8 ∨ k = 9 ∨ k = 10 by omega) with e | e | e | e | e | e | e | e | e | e | e <;> subst e
  · show xB (if w / 12 = a then -1 else 0) j = decide ((64 * w + j) / 768 = a)
    rw [xB_if hj, show (64 * w + j) / 768 = w / 12 by omega]
  · show xB (if mm (w / 12 * 8 + a) = true then -1 else 0) j = mm ((64 * w + j) / 768 * 8 + a)
    rw [xB_if hj, show (64 * w + j) / 768 = w / 12 by omega]
    cases mm (w / 12 * 8 + a) <;> rfl
  · show xB (if w % 12 / 3 = a then -1 else 0) j = decide ((64 * w + j) / 192 % 4 = a)
    rw [xB_if hj, show (64 * w + j) / 192 % 4 = w % 12 / 3 by omega]
  · have h3 := h3 rfl
    show xB (if w % 3 = a / 2 then shl 4294967295 (a % 2 * 4 * 8) else 0) j = decide ((64 * w + j) / 32 % 6 = a)
    rw [show (64 * w + j) / 32 % 6 = 2 * (w % 3) + j / 32 by omega]
    by_cases h : w % 3 = a / 2
    · rw [if_pos h, xB_prd (a % 2) (by omega) j hj]
      apply decide_eq_decide.mpr
      omega
    · rw [if_neg h, xB_0]
      exact (decide_eq_false (by omega)).symm
  · have h4 := h4 rfl
    show xB (shl 1095216660735 (a * 8)) j = decide ((64 * w + j) / 8 % 4 = a)
    rw [xB_cls a h4 j hj, show (64 * w + j) / 8 % 4 = j / 8 % 4 by omega]
  · have h5 := h5 rfl
    show xB (vfR a b 8) j = decide (a ≤ (64 * w + j) % 8 ∧ (64 * w + j) % 8 ≤ b)
    rw [xB_vf a (by omega) b h5.2 j hj, show (64 * w + j) % 8 = j % 8 by omega]
  · show xB (wd a w ^^^ (-1)) j = !aB (wd a) (64 * w + j)
    rw [xB_not _ hj, hat]
  · show xB (wd a w &&& wd b w) j = (aB (wd a) (64 * w + j) && aB (wd b) (64 * w + j))
    rw [xB_and, hat, hat]
  · show xB (wd a w ||| wd b w) j = (aB (wd a) (64 * w + j) || aB (wd b) (64 * w + j))
    rw [xB_or, hat, hat]
  · exact xB_m1 j hj
  · show xB (two3 (wd a w) (wd b w) (wd c w)) j = (((aB (wd a) (64 * w + j) && aB (wd b) (64 * w + j)) || (aB (wd a) (64 * w + j) && aB (wd c) (64 * w + j))) || (aB (wd b) (64 * w + j) && aB (wd c) (64 * w + j)))
    unfold two3
    rw [xB_or, xB_or, xB_and, xB_and, xB_and, hat, hat, hat]
end
section
/-! Pictures of the desk, and what keeps them. -/
theorem Kp.mono {S S2 : Nat → Prop} {L : List Nat} {f : Nat → va_E} {u : WU} (h : Kp S L f u) (hs : ∀ a, S a → S2 a) : Kp S2 L f u := fun a e ha hn => h a e ha (fun q => hn (hs a q))
/-- cells of the condition book, of the rule book -/
def cT (e : va_E) : Bool := match e with
  | .inr (i, _) => decide (i = 0 ∨ i = 1)
  | .inl (_, n, _) => decide (n = 60 ∨ n = 64 ∨ n = 96)
def rT (e : va_E) : Bool := match e with
  | .inr (i, _) => decide (i = 2 ∨ i = 3)
  | .inl (_, n, _) => decide (n = 20)
theorem CoB.keep {G : GG} {L L' : List Nat} {f f' : Nat → va_E} {cb mA gA n : Nat} {ad wa kd : Nat → Nat} {ka kb kc : Nat → Int32} {wd : Nat → Nat → Int64} {mm : Nat → Bool} {S : Nat → Prop} (h : CoB G L f cb mA gA n ad wa kd ka kb kc wd mm) (hk : Kp S L f (L', f')) (hs : ∀ a e, Lk L f a e → cT e = true → ¬ S a) : CoB G L' f' cb mA gA n ad wa kd ka kb kc wd mm := by
  obtain ⟨h0, h1, h2, h3, h4⟩ := h
  refine ⟨h0, hk.k h1 (hs _ _ h1 rfl), hk.k h2 (hs _ _ h2 rfl), hk.k h3 (hs _ _ h3 rfl), fun i hi => ?_⟩
  obtain ⟨a1, a2⟩ := h4 i hi
  exact ⟨hk.k a1 (hs _ _ a1 rfl), hk.k a2 (hs _ _ a2 rfl)⟩
/-- the rules alone: their conditions by number -/
def RuB0 (G : GG) (L : List Nat) (f : Nat → va_E) (rb rA n : Nat) (rad rc rk nu : Nat → Nat) (dn : Nat → Bool) (ad : Nat → Nat) : Prop :=
  n ≤ 20 ∧ Lk L f rb (.inr (3, [.ref rA, .int (nI n)])) ∧ Lk L f rA (.inl (G.2 3, 20, .inr (.inr (.inr (.inr (upto n rad)))))) ∧
  ∀ q, q < n → rk q < 10 ∧ nu q < 20 ∧ Lk L f (rad q) (.inr (2, [.int (nI (rk q)), .int (bI (dn q)), .ref (ad (rc q)), .int (nI (nu q))]))
theorem RuB0.keep {G : GG} {L L' : List Nat} {f f' : Nat → va_E} {rb rA n : Nat} {rad rc rk nu ad : Nat → Nat} {dn : Nat → Bool} {S : Nat → Prop} (h : RuB0 G L f rb rA n rad rc rk nu dn ad) (hk : Kp S L f (L', f')) (hs : ∀ a e, Lk L f a e → rT e = true → ¬ S a) : RuB0 G L' f' rb rA n rad rc rk nu dn ad := by
  obtain ⟨h0, h1, h2, h3⟩ := h
  refine ⟨h0, hk.k h1 (hs _ _ h1 rfl), hk.k h2 (hs _ _ h2 rfl), fun q hq => ?_⟩
  obtain ⟨a1, a2, a3⟩ := h3 q hq
  exact ⟨a1, a2, hk.k a3 (hs _ _ a3 rfl)⟩
theorem RuB_of {G : GG} {L : List Nat} {f : Nat → va_E} {cb mA gA cn rb rA n : Nat} {ad wa kd rad rc rk nu : Nat → Nat} {ka kb kc : Nat → Int32} {wd : Nat → Nat → Int64} {mm dn : Nat → Bool} (hC : CoB G L f cb mA gA cn ad wa kd ka kb kc wd mm) (hR : RuB0 G L f rb rA n rad rc rk nu dn ad) (hc : ∀ q, q < n → rc q < cn) : RuB G L f rb rA n rad (fun q => ad (rc q)) (fun q => wa (rc q)) rk nu dn (fun q => wd (rc q)) := by
  obtain ⟨h0, h1, h2, h3⟩ := hR
  refine ⟨h0, h1, h2, fun q hq => ?_⟩
  obtain ⟨a1, a2, a3⟩ := h3 q hq
  obtain ⟨b1, b2⟩ := hC.2.2.2.2 (rc q) (hc q hq)
  exact ⟨a1, a2, a3, ⟨_, _, _, _, b1⟩, b2⟩
/-- an address of another kind -/
theorem cT_ne {L : List Nat} {f : Nat → va_E} {x : Nat} {ex : va_E} (hx : Lk L f x ex) (h : cT ex = false) : ∀ a e, Lk L f a e → cT e = true → ¬ a = x := fun a e ha hc q => by
  subst q
  rw [← ha.2, hx.2, h] at hc
  cases hc
theorem rT_ne {L : List Nat} {f : Nat → va_E} {x : Nat} {ex : va_E} (hx : Lk L f x ex) (h : rT ex = false) : ∀ a e, Lk L f a e → rT e = true → ¬ a = x := fun a e ha hc q => by
  subst q
  rw [← ha.2, hx.2, h] at hc
  cases hc
theorem Lk.ni {L : List Nat} {f : Nat → va_E} {a q : Nat} {e : va_E} (h : Lk L f a e) (hq : q ∉ L) : ¬ a = q := fun z => hq (z ▸ h.1)
theorem upto_snoc (n : Nat) (ad : Nat → Nat) (q : Nat) : va_up (upto n ad) n (some q) = upto (n + 1) (va_up ad n q) := by
  funext i
  unfold upto
  by_cases h : i = n
  · subst h
    rw [va_up_self, if_pos (by omega), va_up_self]
  · rw [va_up_ne _ _ h]
    by_cases h2 : i < n
    · rw [if_pos h2, if_pos (by omega), va_up_ne _ _ h]
    · rw [if_neg h2, if_neg (by omega)]
theorem CoB_snoc {G : GG} {L L' : List Nat} {f f' : Nat → va_E} {cb mA gA n : Nat} {ad wa kd : Nat → Nat} {ka kb kc : Nat → Int32} {wd : Nat → Nat → Int64} {mm : Nat → Bool} {q z k : Nat} {xa xb xc : Int32} {g : Nat → Int64} (hB : CoB G L f cb mA gA n ad wa kd ka kb kc wd mm) (hn : n < 60) (hk : Kp (fun a => a = cb ∨ a = mA) L f (L', f'))
    (h1 : Lk L' f' cb (.inr (1, [.ref mA, .ref gA, .int (nI (n + 1))]))) (h2 : Lk L' f' mA (.inl (G.2 2, 60, .inr (.inr (.inr (.inr (va_up (upto n ad) n (some q)))))))) (h3 : Lk L' f' q (.inr (0, [.int (nI k), .int xa, .int xb, .int xc, .ref z]))) (h4 : Lk L' f' z (.inl (G.2 0, 96, .inr (.inl g)))) :
    CoB G L' f' cb mA gA (n + 1) (va_up ad n q) (va_up wa n z) (va_up kd n k) (va_up ka n xa) (va_up kb n xb) (va_up kc n xc) (va_up wd n g) mm := by
  obtain ⟨b0, b1, b2, b3, b4⟩ := hB
  rw [upto_snoc] at h2
  refine ⟨by omega, h1, h2, hk.k b3 (fun q => ?_), fun i hi => ?_⟩
  · rcases q with q | q
    · exact Lk.neOA b1 b3 q.symm
    · exact Lk.neAA b3 b2 (by decide) q
  · by_cases h : i = n
    · subst h
      simp only [va_up_self]
      exact ⟨h3, h4⟩
    · simp only [va_up_ne _ _ h]
      obtain ⟨a1, a2⟩ := b4 i (by omega)
      refine ⟨hk.k a1 (fun q => ?_), hk.k a2 (fun q => ?_)⟩
      · rcases q with q | q
        · exact Lk.neOO a1 b1 (by decide) q
        · exact Lk.neOA a1 b2 q
      · rcases q with q | q
        · exact Lk.neOA b1 a2 q.symm
        · exact Lk.neAA a2 b2 (by decide) q
/-- different conditions lie at different addresses -/
def inj (n : Nat) (g : Nat → Nat) : Prop := ∀ i j, i < n → j < n → g i = g j → i = j
theorem CoB_setw {G : GG} {L : List Nat} {f : Nat → va_E} {cb mA gA n : Nat} {ad wa kd : Nat → Nat} {ka kb kc : Nat → Int32} {wd : Nat → Nat → Int64} {mm : Nat → Bool} (hB : CoB G L f cb mA gA n ad wa kd ka kb kc wd mm) (hI : inj n wa) {i : Nat} (hi : i < n) (g : Nat → Int64) :
    CoB G L (va_up f (wa i) (.inl (G.2 0, 96, .inr (.inl g)))) cb mA gA n ad wa kd ka kb kc (va_up wd i g) mm := by
  obtain ⟨b0, b1, b2, b3, b4⟩ := hB
  have hw := (b4 i hi).2
  refine ⟨b0, b1.up (Lk.neOA b1 hw), b2.up (Lk.neAA b2 hw (by decide)), b3.up (Lk.neAA b3 hw (by decide)), fun j hj => ?_⟩
  obtain ⟨a1, a2⟩ := b4 j hj
  refine ⟨a1.up (Lk.neOA a1 hw), ?_⟩
  by_cases h : j = i
  · subst h
    rw [va_up_self]
    exact hw.set
  · rw [va_up_ne _ _ h]
    exact a2.up (fun q => h (hI j i hj hi q))
theorem CoB_setm {G : GG} {L : List Nat} {f : Nat → va_E} {cb mA gA n : Nat} {ad wa kd : Nat → Nat} {ka kb kc : Nat → Int32} {wd : Nat → Nat → Int64} {mm : Nat → Bool} (hB : CoB G L f cb mA gA n ad wa kd ka kb kc wd mm) (k : Nat) (b : Bool) :
    CoB G L (va_up f gA (.inl (G.2 1, 64, .inl (upd (fun k => bI (mm k)) k (bI b))))) cb mA gA n ad wa kd ka kb kc wd (va_up mm k b) := by
  obtain ⟨b0, b1, b2, b3, b4⟩ := hB
  have e : upd (fun k => bI (mm k)) k (bI b) = fun j => bI (va_up mm k b j) := by
    funext j
    by_cases h : j = k
    · subst h
      rw [va_up_self]
      exact if_pos rfl
    · rw [va_up_ne _ _ h]
      exact if_neg h
  rw [e]
  refine ⟨b0, b1.up (Lk.neOA b1 b3), b2.up (Lk.neAA b2 b3 (by decide)), b3.set, fun j hj => ?_⟩
  obtain ⟨a1, a2⟩ := b4 j hj
  exact ⟨a1.up (Lk.neOA a1 b3), a2.up (Lk.neAA a2 b3 (by decide))⟩
/-- the words are what the conditions say -/
def OkW (n : Nat) (kd ca cb cc : Nat → Nat) (wd : Nat → Nat → Int64) (mm : Nat → Bool) : Prop := ∀ i, i < n → ∀ w, w < 96 → wd i w = wrd mm wd (kd i) (ca i) (cb i) (cc i) w
def OkN (n : Nat) (kd : Nat → Nat) (ka kb kc : Nat → Int32) (ca cb cc : Nat → Nat) : Prop := ∀ i, i < n → okC i (kd i) (ka i) (kb i) (kc i) (ca i) (cb i) (cc i)
/-- a word looks at words of lesser conditions alone -/
theorem wrd_congr {mm : Nat → Bool} {wd wd' : Nat → Nat → Int64} {n k a b c w : Nat} {xa xb xc : Int32} (ho : okC n k xa xb xc a b c) (h : ∀ j, j < n → wd j w = wd' j w) : wrd mm wd k a b c w = wrd mm wd' k a b c w := by
  obtain ⟨hk, -, -, -, -, -, -, -, -, -, h6, h7, h10⟩ := ho
  unfold wrd
  rcases (show k = 0 ∨ k = 1 ∨ k = 2 ∨ k = 3 ∨ k = 4 ∨ k = 5 ∨ k = 6 ∨ k = 7 ∨ k = 8 ∨ k = 9 ∨ k = 10 by omega) with e | e | e | e | e | e | e | e | e | e | e <;> subst e
  · rfl
  · rfl
  · rfl
  · rfl
  · rfl
  · rfl
  · show wd a w ^^^ (-1) = wd' a w ^^^ (-1)
    rw [h a (h6 rfl)]
  · show wd a w &&& wd b w = wd' a w &&& wd' b w
    rw [h a (h7 (Or.inl rfl)).1, h b (h7 (Or.inl rfl)).2]
  · show wd a w ||| wd b w = wd' a w ||| wd' b w
    rw [h a (h7 (Or.inr rfl)).1, h b (h7 (Or.inr rfl)).2]
  · rfl
  · show two3 (wd a w) (wd b w) (wd c w) = two3 (wd' a w) (wd' b w) (wd' c w)
    rw [h a (h10 rfl).1, h b (h10 rfl).2.1, h c (h10 rfl).2.2]
theorem wrd_mm {mm mm' : Nat → Bool} {wd : Nat → Nat → Int64} {k a b c w : Nat} (h : k = 1 → mm (w / 12 * 8 + a) = mm' (w / 12 * 8 + a)) : wrd mm wd k a b c w = wrd mm' wd k a b c w := by
  by_cases hk : k = 1
  · unfold wrd
    rw [h hk]
  · unfold wrd
    by_cases h0 : k = 0
    · rw [if_pos h0, if_pos h0]
    · rw [if_neg h0, if_neg h0, if_neg hk, if_neg hk]
theorem Kp.notin {S : Nat → Prop} {L L' : List Nat} {f f' : Nat → va_E} {q : Nat} (h : Kp S L f (L', f')) (hq : q ∉ L') (hs : ¬ S q) : q ∉ L := fun z => hq (h q (f q) ⟨z, rfl⟩ hs).1
theorem va_up_id {α : Type} {f : Nat → α} {a : Nat} {e : α} (h : f a = e) : f = va_up f a e := by
  funext x
  by_cases hx : x = a
  · rw [hx, va_up_self, h]
  · rw [va_up_ne _ _ hx]
theorem okC_mono {n n' k a b c : Nat} {xa xb xc : Int32} (h : okC n k xa xb xc a b c) (hn : n ≤ n') : okC n' k xa xb xc a b c := by
  obtain ⟨h0, h1, h2, h3, h4, h5, h6, h7, h8, h9, h10, h11, h12⟩ := h
  exact ⟨h0, h1, h2, h3, h4, h5, h6, h7, h8, h9, fun q => by have := h10 q; omega, fun q => by have := h11 q; omega, fun q => by have := h12 q; omega⟩
/-- what holds of the words while those of person u are worked out again: conditions below i are done, of condition i the first t words -/
def OkP (n : Nat) (kd ca cb cc : Nat → Nat) (wd : Nat → Nat → Int64) (mm : Nat → Bool) (u i t : Nat) : Prop :=
  ∀ j, j < n → ∀ w, w < 96 → (w / 12 ≠ u ∨ j < i ∨ (j = i ∧ w < u * 12 + t)) → wd j w = wrd mm wd (kd j) (ca j) (cb j) (cc j) w
theorem OkP_step {n : Nat} {kd ca cb cc : Nat → Nat} {ka kb kc : Nat → Int32} {wd : Nat → Nat → Int64} {mm : Nat → Bool} {u i t : Nat} (hO : OkN n kd ka kb kc ca cb cc) (h : OkP n kd ca cb cc wd mm u i t) (hi : i < n) (hu : u < 8) (ht : t < 12) :
    OkP n kd ca cb cc (va_up wd i (vp_updL (wd i) (u * 12 + t) (wrd mm wd (kd i) (ca i) (cb i) (cc i) (u * 12 + t)))) mm u i (t + 1) := by
  intro j hj w hw hc
  have hlow : ∀ w' j', j' ≠ i ∨ w' ≠ u * 12 + t → va_up wd i (vp_updL (wd i) (u * 12 + t) (wrd mm wd (kd i) (ca i) (cb i) (cc i) (u * 12 + t))) j' w' = wd j' w' := by
    intro w' j' hh
    by_cases e : j' = i
    · subst e
      rw [va_up_self]
      exact if_neg (hh.resolve_left (fun q => q rfl))
    · rw [va_up_ne _ _ e]
  have hcg : (∀ j', j' < j → j' ≠ i ∨ w ≠ u * 12 + t) → wrd mm (va_up wd i (vp_updL (wd i) (u * 12 + t) (wrd mm wd (kd i) (ca i) (cb i) (cc i) (u * 12 + t)))) (kd j) (ca j) (cb j) (cc j) w = wrd mm wd (kd j) (ca j) (cb j) (cc j) w :=
    fun hh => wrd_congr (hO j hj) (fun j' hj' => hlow w j' (hh j' hj'))
  by_cases e : j = i ∧ w = u * 12 + t
  · obtain ⟨e1, e2⟩ := e
    subst e1
    subst e2
    rw [hcg (fun j' hj' => Or.inl (by omega)), va_up_self]
    exact if_pos rfl
  · rw [hlow w j (by omega), hcg (fun j' hj' => ?_)]
    · exact h j hj w hw (by omega)
    · rcases hc with q | q | q
      · right
        omega
      · left
        omega
      · left
        omega
theorem OkP_next {n : Nat} {kd ca cb cc : Nat → Nat} {wd : Nat → Nat → Int64} {mm : Nat → Bool} {u i : Nat} (h : OkP n kd ca cb cc wd mm u i 12) : OkP n kd ca cb cc wd mm u (i + 1) 0 := fun j hj w hw hc => h j hj w hw (by omega)
theorem OkP_end {n : Nat} {kd ca cb cc : Nat → Nat} {wd : Nat → Nat → Int64} {mm : Nat → Bool} {u i t : Nat} (h : OkP n kd ca cb cc wd mm u i t) (hi : n ≤ i) : OkW n kd ca cb cc wd mm := fun j hj w hw => h j hj w hw (Or.inr (Or.inl (by omega)))
/-! ### the row of rules: one comes in, one goes -/
def insA {α : Type} (g : Nat → α) (pl : Nat) (v : α) : Nat → α := fun x => if x < pl then g x else if x = pl then v else g (x - 1)
def delA {α : Type} (g : Nat → α) (pl : Nat) : Nat → α := fun x => if x < pl then g x else g (x + 1)
/-- places above p moved up by one -/
def shU (p : Nat) (mk : Nat → Option Nat) : Nat → Option Nat := fun x => if p < x ∧ x < 20 then mk (x - 1) else mk x
/-- places from pl to p moved down by one -/
def shD (pl p : Nat) (mk : Nat → Option Nat) : Nat → Option Nat := fun x => if pl ≤ x ∧ x < p then mk (x + 1) else mk x
theorem shU_0 (mk : Nat → Option Nat) : mk = shU 19 mk := by
  funext x
  exact (if_neg (by omega)).symm
theorem shU_s {p : Nat} (hp : p + 1 < 20) (mk : Nat → Option Nat) : va_up (shU (p + 1) mk) (p + 1) (mk p) = shU p mk := by
  funext x
  unfold shU
  by_cases h : x = p + 1
  · subst h
    rw [va_up_self, if_pos (by omega)]
    rfl
  · rw [va_up_ne _ _ h]
    by_cases h2 : p + 1 < x ∧ x < 20
    · rw [if_pos h2, if_pos (by omega)]
    · rw [if_neg h2, if_neg (by omega)]
theorem shU_at {p x : Nat} (h : x ≤ p) (mk : Nat → Option Nat) : shU p mk x = mk x := if_neg (by omega)
theorem shU_end {n pl : Nat} (hn : n < 20) (hp : pl ≤ n) (rad : Nat → Nat) (q : Nat) : va_up (shU pl (upto n rad)) pl (some q) = upto (n + 1) (insA rad pl q) := by
  funext x
  unfold shU upto insA
  by_cases h : x = pl
  · subst h
    rw [va_up_self, if_pos (by omega), if_neg (by omega), if_pos rfl]
  · rw [va_up_ne _ _ h]
    by_cases h2 : pl < x ∧ x < 20
    · rw [if_pos h2]
      by_cases h3 : x - 1 < n
      · rw [if_pos h3, if_pos (by omega), if_neg (by omega), if_neg h]
      · rw [if_neg h3, if_neg (by omega)]
    · rw [if_neg h2]
      by_cases h3 : x < n
      · rw [if_pos h3, if_pos (by omega), if_pos (by omega)]
      · rw [if_neg h3, if_neg (by omega)]
theorem shD_0 (pl : Nat) (mk : Nat → Option Nat) : mk = shD pl pl mk := by
  funext x
  exact (if_neg (by omega)).symm
theorem shD_s {pl p : Nat} (hp : pl ≤ p) (mk : Nat → Option Nat) : va_up (shD pl p mk) p (mk (p + 1)) = shD pl (p + 1) mk := by
  funext x
  unfold shD
  by_cases h : x = p
  · subst h
    rw [va_up_self, if_pos (by omega)]
  · rw [va_up_ne _ _ h]
    by_cases h2 : pl ≤ x ∧ x < p
    · rw [if_pos h2, if_pos (by omega)]
    · rw [if_neg h2, if_neg (by omega)]
theorem shD_at {pl p x : Nat} (h : p ≤ x) (mk : Nat → Option Nat) : shD pl p mk x = mk x := if_neg (by omega)
theorem shD_end {n pl : Nat} (hn : n ≤ 20) (hp : pl < n) (rad : Nat → Nat) : va_up (shD pl 19 (upto n rad)) 19 none = upto (n - 1) (delA rad pl) := by
  funext x
  unfold shD upto delA
  by_cases h : x = 19
  · subst h
    rw [va_up_self, if_neg (by omega)]
  · rw [va_up_ne _ _ h]
    by_cases h2 : pl ≤ x ∧ x < 19
    · rw [if_pos h2]
      by_cases h3 : x + 1 < n
      · rw [if_pos h3, if_pos (by omega), if_neg (by omega)]
      · rw [if_neg h3, if_neg (by omega)]
    · rw [if_neg h2]
      by_cases h3 : x < n
      · rw [if_pos h3, if_pos (by omega), if_pos (by omega)]
      · rw [if_neg h3, if_neg (by omega)]
theorem insA_lt {α : Type} {g : Nat → α} {pl : Nat} {v : α} {x : Nat} (h : x < pl) : insA g pl v x = g x := if_pos h
theorem insA_eq {α : Type} {g : Nat → α} {pl : Nat} {v : α} : insA g pl v pl = v := by
  unfold insA
  rw [if_neg (by omega), if_pos rfl]
theorem insA_gt {α : Type} {g : Nat → α} {pl : Nat} {v : α} {x : Nat} (h : pl < x) : insA g pl v x = g (x - 1) := by
  unfold insA
  rw [if_neg (by omega), if_neg (by omega)]
theorem RuB0_ins {G : GG} {L L' : List Nat} {f f' : Nat → va_E} {rb rA n pl r0 c0 fr : Nat} {d0 : Bool} {rad rc rk nu ad : Nat → Nat} {dn : Nat → Bool} (h : RuB0 G L f rb rA n rad rc rk nu dn ad) (hn : n < 20) (hp : pl ≤ n) (hr0 : r0 < 10) (hk : Kp (fun a => a = rb ∨ a = rA) L f (L', f'))
    (h1 : Lk L' f' rb (.inr (3, [.ref rA, .int (nI (n + 1))]))) (h2 : Lk L' f' rA (.inl (G.2 3, 20, .inr (.inr (.inr (.inr (va_up (shU pl (upto n rad)) pl (some fr)))))))) (h3 : Lk L' f' fr (.inr (2, [.int (nI r0), .int (bI d0), .ref (ad c0), .int (nI n)]))) :
    RuB0 G L' f' rb rA (n + 1) (insA rad pl fr) (insA rc pl c0) (insA rk pl r0) (insA nu pl n) (insA dn pl d0) ad := by
  obtain ⟨b0, b1, b2, b3⟩ := h
  rw [shU_end hn hp] at h2
  have old : ∀ q, q < n → Lk L' f' (rad q) (.inr (2, [.int (nI (rk q)), .int (bI (dn q)), .ref (ad (rc q)), .int (nI (nu q))])) := fun q hq => by
    have a := (b3 q hq).2.2
    refine hk.k a (fun z => ?_)
    rcases z with z | z
    · exact Lk.neOO a b1 (by decide) z
    · exact Lk.neOA a b2 z
  refine ⟨by omega, h1, h2, fun q hq => ?_⟩
  rcases Nat.lt_trichotomy q pl with z | z | z
  · simp only [insA_lt z]
    exact ⟨(b3 q (by omega)).1, (b3 q (by omega)).2.1, old q (by omega)⟩
  · subst z
    simp only [insA_eq]
    exact ⟨hr0, hn, h3⟩
  · simp only [insA_gt z]
    exact ⟨(b3 (q - 1) (by omega)).1, (b3 (q - 1) (by omega)).2.1, old (q - 1) (by omega)⟩
/-- a number less, where it was above x -/
def dec1 (x m : Nat) : Nat := if x < m then m - 1 else m
theorem RuB0_del {G : GG} {L : List Nat} {f f' : Nat → va_E} {rb rA n pl : Nat} {rad rc rk nu ad : Nat → Nat} {dn : Nat → Bool} (h : RuB0 G L f rb rA n rad rc rk nu dn ad) (hp : pl < n) (hk : Kp (fun a => a = rb ∨ a = rA) L f (L, f'))
    (h1 : Lk L f' rb (.inr (3, [.ref rA, .int (nI (n - 1))]))) (h2 : Lk L f' rA (.inl (G.2 3, 20, .inr (.inr (.inr (.inr (va_up (shD pl 19 (upto n rad)) 19 none))))))) :
    RuB0 G L f' rb rA (n - 1) (delA rad pl) (delA rc pl) (delA rk pl) (delA nu pl) (delA dn pl) ad := by
  obtain ⟨b0, b1, b2, b3⟩ := h
  rw [shD_end b0 hp] at h2
  have old : ∀ q, q < n → Lk L f' (rad q) (.inr (2, [.int (nI (rk q)), .int (bI (dn q)), .ref (ad (rc q)), .int (nI (nu q))])) := fun q hq => by
    have a := (b3 q hq).2.2
    refine hk.k a (fun z => ?_)
    rcases z with z | z
    · exact Lk.neOO a b1 (by decide) z
    · exact Lk.neOA a b2 z
  refine ⟨by omega, h1, h2, fun q hq => ?_⟩
  unfold delA
  by_cases z : q < pl
  · simp only [if_pos z]
    exact ⟨(b3 q (by omega)).1, (b3 q (by omega)).2.1, old q (by omega)⟩
  · simp only [if_neg z]
    exact ⟨(b3 (q + 1) (by omega)).1, (b3 (q + 1) (by omega)).2.1, old (q + 1) (by omega)⟩
theorem RuB0_setnu {G : GG} {L : List Nat} {f : Nat → va_E} {rb rA n : Nat} {rad rc rk nu ad : Nat → Nat} {dn : Nat → Bool} (h : RuB0 G L f rb rA n rad rc rk nu dn ad) (hI : inj n rad) {q : Nat} (hq : q < n) {m : Nat} (hm : m < 20) :
    RuB0 G L (va_up f (rad q) (.inr (2, [.int (nI (rk q)), .int (bI (dn q)), .ref (ad (rc q)), .int (nI m)]))) rb rA n rad rc rk (va_up nu q m) dn ad := by
  obtain ⟨b0, b1, b2, b3⟩ := h
  have a := (b3 q hq).2.2
  refine ⟨b0, b1.up (Lk.neOO b1 a (by decide)), b2.up (fun z => Lk.neOA a b2 z.symm), fun j hj => ?_⟩
  obtain ⟨c1, c2, c3⟩ := b3 j hj
  by_cases z : j = q
  · subst z
    rw [va_up_self]
    exact ⟨c1, hm, a.set⟩
  · rw [va_up_ne _ _ z]
    exact ⟨c1, c2, c3.up (fun y => z (hI j q hj hq y))⟩
theorem isPl_some {n r0 : Nat} {d0 : Bool} {rk : Nat → Nat} {dn : Nat → Bool} (h : n < 20) : ∃ pl, fst0 (isPl n r0 d0 rk dn) 20 0 = some pl ∧ pl ≤ n := by
  have hn : isPl n r0 d0 rk dn n = true := isPl_t1 (Nat.le_refl n)
  cases e : fst0 (isPl n r0 d0 rk dn) 20 0 with
  | none =>
    rw [fst0_n e n (by omega) (by omega)] at hn
    cases hn
  | some pl =>
    refine ⟨pl, rfl, ?_⟩
    rcases Nat.lt_or_ge n pl with q | q
    · rw [(fst0_s e).2.2.2 n (by omega) q] at hn
      cases hn
    · exact q
theorem inj_del {n pl : Nat} {g : Nat → Nat} (h : inj n g) (hp : pl < n) : inj (n - 1) (delA g pl) := by
  intro i j hi hj e
  unfold delA at e
  by_cases a : i < pl <;> by_cases b : j < pl
  · rw [if_pos a, if_pos b] at e
    exact h i j (by omega) (by omega) e
  · rw [if_pos a, if_neg b] at e
    have := h i (j + 1) (by omega) (by omega) e
    omega
  · rw [if_neg a, if_pos b] at e
    have := h (i + 1) j (by omega) (by omega) e
    omega
  · rw [if_neg a, if_neg b] at e
    have := h (i + 1) (j + 1) (by omega) (by omega) e
    omega
/-- the first k numbers done -/
def decK (x k : Nat) (nu : Nat → Nat) : Nat → Nat := fun j => if j < k then dec1 x (nu j) else nu j
theorem decK_0 (x : Nat) (nu : Nat → Nat) : nu = decK x 0 nu := by
  funext j
  exact (if_neg (by omega)).symm
theorem decK_at {x k : Nat} {nu : Nat → Nat} : decK x k nu k = nu k := if_neg (by omega)
theorem decK_s (x k : Nat) (nu : Nat → Nat) : va_up (decK x k nu) k (dec1 x (nu k)) = decK x (k + 1) nu := by
  funext j
  unfold decK
  by_cases h : j = k
  · subst h
    rw [va_up_self, if_pos (by omega)]
  · rw [va_up_ne _ _ h]
    by_cases h2 : j < k
    · rw [if_pos h2, if_pos (by omega)]
    · rw [if_neg h2, if_neg (by omega)]
theorem decK_same {x k : Nat} {nu : Nat → Nat} (h : ¬ x < nu k) : decK x k nu = decK x (k + 1) nu := by
  rw [← decK_s, show dec1 x (nu k) = nu k from if_neg h]
  exact va_up_id decK_at
theorem delA_mem {n pl j : Nat} {g : Nat → Nat} (hj : j < n - 1) (hp : pl < n) : ∃ q, q < n ∧ delA g pl j = g q := by
  unfold delA
  by_cases h : j < pl
  · exact ⟨j, by omega, if_pos h⟩
  · exact ⟨j + 1, by omega, if_neg h⟩
theorem RuB0_nuc {G : GG} {L : List Nat} {f : Nat → va_E} {rb rA n : Nat} {rad rc rk nu nu' ad : Nat → Nat} {dn : Nat → Bool} (h : RuB0 G L f rb rA n rad rc rk nu dn ad) (e : ∀ q, q < n → nu q = nu' q) : RuB0 G L f rb rA n rad rc rk nu' dn ad := by
  obtain ⟨b0, b1, b2, b3⟩ := h
  refine ⟨b0, b1, b2, fun q hq => ?_⟩
  rw [← e q hq]
  exact b3 q hq
/-- what canBe lets through -/
theorem cOK_ok {n : Nat} (hn : n ≤ 60) {x1 x2 x3 x4 : Int32} (h : cOK n x1 x2 x3 x4 = true) : ∃ k a b c, x1 = nI k ∧ okC n k x2 x3 x4 a b c := by
  have one : ∀ {N : Nat}, N < 2 ^ 31 → blw x2 (nI N) = true → ∃ a, a < N ∧ x2 = nI a := fun hN h => blw_of hN h
  rcases k11 x1 with e | e | e | e | e | e | e | e | e | e | e | hk
  · subst e
    obtain ⟨a, ha, e⟩ := blw_of (n := 8) (by omega) h
    exact ⟨0, a, 0, 0, rfl, by omega, fun _ => e, fun q => by omega, fun q => by omega, fun _ => ha, fun q => by omega, fun q => by omega, fun q => by omega, fun q => by omega, fun q => by omega, fun q => by omega, fun q => by omega, fun q => by omega⟩
  · subst e
    obtain ⟨a, ha, e⟩ := blw_of (n := 8) (by omega) h
    exact ⟨1, a, 0, 0, rfl, by omega, fun _ => e, fun q => by omega, fun q => by omega, fun q => by omega, fun _ => ha, fun q => by omega, fun q => by omega, fun q => by omega, fun q => by omega, fun q => by omega, fun q => by omega, fun q => by omega⟩
  · subst e
    obtain ⟨a, ha, e⟩ := blw_of (n := 4) (by omega) h
    exact ⟨2, a, 0, 0, rfl, by omega, fun _ => e, fun q => by omega, fun q => by omega, fun q => by omega, fun q => by omega, fun _ => ha, fun q => by omega, fun q => by omega, fun q => by omega, fun q => by omega, fun q => by omega, fun q => by omega⟩
  · subst e
    obtain ⟨a, ha, e⟩ := blw_of (n := 6) (by omega) h
    exact ⟨3, a, 0, 0, rfl, by omega, fun _ => e, fun q => by omega, fun q => by omega, fun q => by omega, fun q => by omega, fun q => by omega, fun _ => ha, fun q => by omega, fun q => by omega, fun q => by omega, fun q => by omega, fun q => by omega⟩
  · subst e
    obtain ⟨a, ha, e⟩ := blw_of (n := 4) (by omega) h
    exact ⟨4, a, 0, 0, rfl, by omega, fun _ => e, fun q => by omega, fun q => by omega, fun q => by omega, fun q => by omega, fun q => by omega, fun q => by omega, fun _ => ha, fun q => by omega, fun q => by omega, fun q => by omega, fun q => by omega⟩
  · subst e
    have h : (blw x2 (nI 8) && (blw x3 (nI 8) && decide (x2 ≤ x3))) = true := h
    rw [Bool.and_eq_true, Bool.and_eq_true] at h
    obtain ⟨a, ha, e⟩ := blw_of (n := 8) (by omega) h.1
    obtain ⟨b, hb, e2⟩ := blw_of (n := 8) (by omega) h.2.1
    have hab := of_decide_eq_true h.2.2
    rw [e, e2] at hab
    have hab := (nI_leI (by omega) (by omega)).mp hab
    exact ⟨5, a, b, 0, rfl, by omega, fun _ => e, fun _ => e2, fun q => by omega, fun q => by omega, fun q => by omega, fun q => by omega, fun q => by omega, fun q => by omega, fun _ => ⟨hab, hb⟩, fun q => by omega, fun q => by omega, fun q => by omega⟩
  · subst e
    obtain ⟨a, ha, e⟩ := blw_of (n := n) (by omega) h
    exact ⟨6, a, 0, 0, rfl, by omega, fun _ => e, fun q => by omega, fun q => by omega, fun q => by omega, fun q => by omega, fun q => by omega, fun q => by omega, fun q => by omega, fun q => by omega, fun _ => ha, fun q => by omega, fun q => by omega⟩
  · subst e
    have h : (blw x2 (nI n) && blw x3 (nI n)) = true := h
    rw [Bool.and_eq_true] at h
    obtain ⟨a, ha, e⟩ := blw_of (n := n) (by omega) h.1
    obtain ⟨b, hb, e2⟩ := blw_of (n := n) (by omega) h.2
    exact ⟨7, a, b, 0, rfl, by omega, fun _ => e, fun _ => e2, fun q => by omega, fun q => by omega, fun q => by omega, fun q => by omega, fun q => by omega, fun q => by omega, fun q => by omega, fun q => by omega, fun _ => ⟨ha, hb⟩, fun q => by omega⟩
  · subst e
    have h : (blw x2 (nI n) && blw x3 (nI n)) = true := h
    rw [Bool.and_eq_true] at h
    obtain ⟨a, ha, e⟩ := blw_of (n := n) (by omega) h.1
    obtain ⟨b, hb, e2⟩ := blw_of (n := n) (by omega) h.2
    exact ⟨8, a, b, 0, rfl, by omega, fun _ => e, fun _ => e2, fun q => by omega, fun q => by omega, fun q => by omega, fun q => by omega, fun q => by omega, fun q => by omega, fun q => by omega, fun q => by omega, fun _ => ⟨ha, hb⟩, fun q => by omega⟩
  · subst e
    exact ⟨9, 0, 0, 0, rfl, by omega, fun q => absurd rfl q, fun q => by omega, fun q => by omega, fun q => by omega, fun q => by omega, fun q => by omega, fun q => by omega, fun q => by omega, fun q => by omega, fun q => by omega, fun q => by omega, fun q => by omega⟩
  · subst e
    have h : (blw x2 (nI n) && (blw x3 (nI n) && blw x4 (nI n))) = true := h
    rw [Bool.and_eq_true, Bool.and_eq_true] at h
    obtain ⟨a, ha, e⟩ := blw_of (n := n) (by omega) h.1
    obtain ⟨b, hb, e2⟩ := blw_of (n := n) (by omega) h.2.1
    obtain ⟨c, hc, e3⟩ := blw_of (n := n) (by omega) h.2.2
    exact ⟨10, a, b, c, rfl, by omega, fun _ => e, fun _ => e2, fun _ => e3, fun q => by omega, fun q => by omega, fun q => by omega, fun q => by omega, fun q => by omega, fun q => by omega, fun q => by omega, fun q => by omega, fun _ => ⟨ha, hb, hc⟩⟩
  · exfalso
    unfold cOK at h
    rw [if_neg (k11_no hk (show 0 < 11 by decide)), if_neg (k11_no hk (show 1 < 11 by decide)), if_neg (k11_no hk (show 2 < 11 by decide)), if_neg (k11_no hk (show 3 < 11 by decide)), if_neg (k11_no hk (show 4 < 11 by decide)), if_neg (k11_no hk (show 5 < 11 by decide)), if_neg (k11_no hk (show 6 < 11 by decide)), if_neg (k11_no hk (show 7 < 11 by decide)), if_neg (k11_no hk (show 8 < 11 by decide)), if_neg (k11_no hk (show 9 < 11 by decide)), if_neg (k11_no hk (show 10 < 11 by decide))] at h
    cases h
end
section
set_option maxHeartbeats 4000000 in
set_option maxRecDepth 100000 in
/-- Long.bitCount -/
theorem c_bitCount (l : Launch) (G : GG) (L : List Nat) (f : Nat → va_E) (x : Int64) : Met l y_Lo_bitCount (.code y_Lo_bitCount b_Lo_bitCount 2 (some .int) :: AW) (RM 0) (va_Pc [.long x] (PW G L f)) (vp_Si (fun r => r = nI (pop x))) 0 0 (fun _ => False) := by
  refine Met.ofW (cc := b_Lo_bitCount) (maxL := 2) (ret := (some .int)) (by decide) rfl ?_
  intro p e s m args below meth c s₁ B hml hv
  obtain ⟨rfl, hP, hK⟩ := hv
  have hx := B.exec
  have hb := B.bytes
  have hr := B.returns
  have hA : ∀ w ∈ AW, w.before _ s = true := fun w h => atoms_spec (ws := (.code y_Lo_bitCount b_Lo_bitCount 2 (some .int) :: AW)) B.pre w (List.mem_cons_of_mem _ h)
  have hown : s.vm.findClass R_Lo = some m.cls := findClass_of_methodNamed B.named
  have hlocks := B.notSynchronized
  have hl := lv_entry ([.long x]) (n := 2) (Nat.le_of_ble_eq_true rfl)
  rw [lg_entry_eq]
  generalize (lg_sl ([.long x]) ++ List.replicate (2 - (lg_sl ([.long x])).length) Slot.unset).toArray = ls at hl ⊢
  have hl : lv_has ls 2 [(0, .long x)] := hl
  refine lv_lload_n hx hb d_Lo_bitCount_0 rfl (lv_at hl 0 rfl) ?_
  refine lv_lload_n hx hb d_Lo_bitCount_1 rfl (lv_at hl 0 rfl) ?_
  refine lv_iconst (v := nI 1) hx hb d_Lo_bitCount_2 (by decide) ?_
  refine lv_lushr (v := (Int64.toUInt64 x >>> (Int64.toUInt64 (Int32.toInt64 (nI 1)) &&& Int64.toUInt64 63)).toInt64) hx hb d_Lo_bitCount_3 rfl ?_
  refine lv_ldc2 (v := 6148914691236517205) hx hb hown (hA _ kw_0) d_Lo_bitCount_4 ?_
  refine lv_land hx hb d_Lo_bitCount_7 ?_
  refine lv_lsub hx hb d_Lo_bitCount_8 ?_
  refine xv_J (y := bs1 x) rfl ?_
  refine lv_lstore_n (lv' := [(0, .long (bs1 x))]) hx hb d_Lo_bitCount_9 rfl hl (by decide) rfl (fun ls hl => ?_)
  refine lv_lload_n hx hb d_Lo_bitCount_10 rfl (lv_at hl 0 rfl) ?_
  refine lv_ldc2 (v := 3689348814741910323) hx hb hown (hA _ kw_1) d_Lo_bitCount_11 ?_
  refine lv_land hx hb d_Lo_bitCount_14 ?_
  refine lv_lload_n hx hb d_Lo_bitCount_15 rfl (lv_at hl 0 rfl) ?_
  refine lv_iconst (v := nI 2) hx hb d_Lo_bitCount_16 (by decide) ?_
  refine lv_lushr (v := (Int64.toUInt64 (bs1 x) >>> (Int64.toUInt64 (Int32.toInt64 (nI 2)) &&& Int64.toUInt64 63)).toInt64) hx hb d_Lo_bitCount_17 rfl ?_
  refine lv_ldc2 (v := 3689348814741910323) hx hb hown (hA _ kw_1) d_Lo_bitCount_18 ?_
  refine lv_land hx hb d_Lo_bitCount_21 ?_
  refine lv_ladd hx hb d_Lo_bitCount_22 ?_
  refine xv_J (y := bs2 (bs1 x)) rfl ?_
  refine lv_lstore_n (lv' := [(0, .long (bs2 (bs1 x)))]) hx hb d_Lo_bitCount_23 rfl hl (by decide) rfl (fun ls hl => ?_)
  refine lv_lload_n hx hb d_Lo_bitCount_24 rfl (lv_at hl 0 rfl) ?_
  refine lv_lload_n hx hb d_Lo_bitCount_25 rfl (lv_at hl 0 rfl) ?_
  refine lv_iconst (v := nI 4) hx hb d_Lo_bitCount_26 (by decide) ?_
  refine lv_lushr (v := (Int64.toUInt64 (bs2 (bs1 x)) >>> (Int64.toUInt64 (Int32.toInt64 (nI 4)) &&& Int64.toUInt64 63)).toInt64) hx hb d_Lo_bitCount_27 rfl ?_
  refine lv_ladd hx hb d_Lo_bitCount_28 ?_
  refine lv_ldc2 (v := 1085102592571150095) hx hb hown (hA _ kw_2) d_Lo_bitCount_29 ?_
  refine lv_land hx hb d_Lo_bitCount_32 ?_
  refine xv_J (y := bs3 (bs2 (bs1 x))) rfl ?_
  refine lv_lstore_n (lv' := [(0, .long (bs3 (bs2 (bs1 x))))]) hx hb d_Lo_bitCount_33 rfl hl (by decide) rfl (fun ls hl => ?_)
  refine lv_lload_n hx hb d_Lo_bitCount_34 rfl (lv_at hl 0 rfl) ?_
  refine lv_lload_n hx hb d_Lo_bitCount_35 rfl (lv_at hl 0 rfl) ?_
  refine lv_bipush (v := nI 8) hx hb d_Lo_bitCount_36 (by decide) ?_
  refine lv_lushr (v := (Int64.toUInt64 (bs3 (bs2 (bs1 x))) >>> (Int64.toUInt64 (Int32.toInt64 (nI 8)) &&& Int64.toUInt64 63)).toInt64) hx hb d_Lo_bitCount_38 rfl ?_
  refine lv_ladd hx hb d_Lo_bitCount_39 ?_
  refine xv_J (y := bs4 (bs3 (bs2 (bs1 x)))) rfl ?_
  refine lv_lstore_n (lv' := [(0, .long (bs4 (bs3 (bs2 (bs1 x)))))]) hx hb d_Lo_bitCount_40 rfl hl (by decide) rfl (fun ls hl => ?_)
  refine lv_lload_n hx hb d_Lo_bitCount_41 rfl (lv_at hl 0 rfl) ?_
  refine lv_lload_n hx hb d_Lo_bitCount_42 rfl (lv_at hl 0 rfl) ?_
  refine lv_bipush (v := nI 16) hx hb d_Lo_bitCount_43 (by decide) ?_
  refine lv_lushr (v := (Int64.toUInt64 (bs4 (bs3 (bs2 (bs1 x)))) >>> (Int64.toUInt64 (Int32.toInt64 (nI 16)) &&& Int64.toUInt64 63)).toInt64) hx hb d_Lo_bitCount_45 rfl ?_
  refine lv_ladd hx hb d_Lo_bitCount_46 ?_
  refine xv_J (y := bs5 (bs4 (bs3 (bs2 (bs1 x))))) rfl ?_
  refine lv_lstore_n (lv' := [(0, .long (bs5 (bs4 (bs3 (bs2 (bs1 x))))))]) hx hb d_Lo_bitCount_47 rfl hl (by decide) rfl (fun ls hl => ?_)
  refine lv_lload_n hx hb d_Lo_bitCount_48 rfl (lv_at hl 0 rfl) ?_
  refine lv_lload_n hx hb d_Lo_bitCount_49 rfl (lv_at hl 0 rfl) ?_
  refine lv_bipush (v := nI 32) hx hb d_Lo_bitCount_50 (by decide) ?_
  refine lv_lushr (v := (Int64.toUInt64 (bs5 (bs4 (bs3 (bs2 (bs1 x))))) >>> (Int64.toUInt64 (Int32.toInt64 (nI 32)) &&& Int64.toUInt64 63)).toInt64) hx hb d_Lo_bitCount_52 rfl ?_
  refine lv_ladd hx hb d_Lo_bitCount_53 ?_
  refine xv_J (y := bs6 (bs5 (bs4 (bs3 (bs2 (bs1 x)))))) rfl ?_
  refine lv_lstore_n (lv' := [(0, .long (bs6 (bs5 (bs4 (bs3 (bs2 (bs1 x)))))))]) hx hb d_Lo_bitCount_54 rfl hl (by decide) rfl (fun ls hl => ?_)
  refine lv_lload_n hx hb d_Lo_bitCount_55 rfl (lv_at hl 0 rfl) ?_
  refine lv_l2i (v := Int64.toInt32 (bs6 (bs5 (bs4 (bs3 (bs2 (bs1 x))))))) hx hb d_Lo_bitCount_56 rfl ?_
  refine lv_bipush (v := nI 127) hx hb d_Lo_bitCount_57 (by decide) ?_
  refine lv_iand hx hb d_Lo_bitCount_59 ?_
  exact W.iret (v := (Int64.toInt32 (bs6 (bs5 (bs4 (bs3 (bs2 (bs1 x))))))) &&& (nI 127)) hx hb hr (fun t9 h9t h9W => ⟨_, rfl, bcI_pop x, h9t⟩) (fun _ h => nomatch h) d_Lo_bitCount_60

set_option maxHeartbeats 4000000 in
set_option maxRecDepth 100000 in
/-- isBelow -/
theorem c_isBelow (l : Launch) (G : GG) (L : List Nat) (f : Nat → va_E) (x y : Int32) : Met l y_De_isBelow (.code y_De_isBelow b_De_isBelow 2 (some .boolean) :: AW) (RM 0) (va_Pc [.int x, .int y] (PW G L f)) (vp_Si (fun r => r = bI (blw x y))) 0 0 (fun _ => False) := by
  refine Met.ofW (cc := b_De_isBelow) (maxL := 2) (ret := (some .boolean)) (by decide) rfl ?_
  intro p e s m args below meth c s₁ B hml hv
  obtain ⟨rfl, hP, hK⟩ := hv
  have hx := B.exec
  have hb := B.bytes
  have hr := B.returns
  have hA : ∀ w ∈ AW, w.before _ s = true := fun w h => atoms_spec (ws := (.code y_De_isBelow b_De_isBelow 2 (some .boolean) :: AW)) B.pre w (List.mem_cons_of_mem _ h)
  have hown : s.vm.findClass R_De = some m.cls := findClass_of_methodNamed B.named
  have hlocks := B.notSynchronized
  have hl := lv_entry ([.int x, .int y]) (n := 2) (Nat.le_of_ble_eq_true rfl)
  rw [lg_entry_eq]
  generalize (lg_sl ([.int x, .int y]) ++ List.replicate (2 - (lg_sl ([.int x, .int y])).length) Slot.unset).toArray = ls at hl ⊢
  have hl : lv_has ls 2 [(0, .int x), (1, .int y)] := hl
  refine lv_iload_n hx hb d_De_isBelow_0 rfl (lv_at hl 0 rfl) ?_
  refine lv_if_lt (tgt := 13) hx hb d_De_isBelow_1 (by decide) (fun c_1 => ?_) (fun c_1 => ?_)
  · refine lv_iconst (v := nI 0) hx hb d_De_isBelow_13 (by decide) ?_
    exact W.zret (v := nI 0) (ty := .boolean) hx hb hr (bI_nar false) (fun t9 h9t h9W => ⟨_, rfl, by rw [blw_f0 c_1]; rfl, h9t⟩) (fun _ h => nomatch h) d_De_isBelow_14
  · refine lv_iload_n hx hb d_De_isBelow_4 rfl (lv_at hl 0 rfl) ?_
    refine lv_iload_n hx hb d_De_isBelow_5 rfl (lv_at hl 1 rfl) ?_
    refine lv_icmp_ge (tgt := 13) hx hb d_De_isBelow_6 (by decide) (fun c_6 => ?_) (fun c_6 => ?_)
    · refine lv_iconst (v := nI 0) hx hb d_De_isBelow_13 (by decide) ?_
      exact W.zret (v := nI 0) (ty := .boolean) hx hb hr (bI_nar false) (fun t9 h9t h9W => ⟨_, rfl, by rw [blw_f1 (i32_nlt c_6)]; rfl, h9t⟩) (fun _ h => nomatch h) d_De_isBelow_14
    · refine lv_iconst (v := nI 1) hx hb d_De_isBelow_9 (by decide) ?_
      refine lv_goto (tgt := 14) hx hb d_De_isBelow_10 (by decide) ?_
      exact W.zret (v := nI 1) (ty := .boolean) hx hb hr (bI_nar true) (fun t9 h9t h9W => ⟨_, rfl, by rw [blw_t c_1 (i32_lt c_6)]; rfl, h9t⟩) (fun _ h => nomatch h) d_De_isBelow_14

set_option maxHeartbeats 4000000 in
set_option maxRecDepth 100000 in
/-- Condition.word -/
theorem c_Co_word (l : Launch) (G : GG) (L : List Nat) (f : Nat → va_E) {k0 k1 k2 k3 : Int32} {a aw : Nat} {ww : Nat → Int64} (hc : Lk L f a (.inr (0, [.int k0, .int k1, .int k2, .int k3, .ref aw]))) (hw : Lk L f aw (.inl (G.2 0, 96, .inr (.inl ww)))) (i : Nat) (hi : i < 96) : Met l y_Co_word (.code y_Co_word b_Co_word 2 (some .long) :: AW) (RM 1) (va_Pc [.ref a, .int (nI i)] (PW G L f)) (vp_Sl (fun r => r = ww i)) 0 0 (fun _ => False) := by
  refine Met.ofW (cc := b_Co_word) (maxL := 2) (ret := (some .long)) (by decide) rfl ?_
  intro p e s m args below meth c s₁ B hml hv
  obtain ⟨rfl, hP, hK⟩ := hv
  have hx := B.exec
  have hb := B.bytes
  have hr := B.returns
  have hA : ∀ w ∈ AW, w.before _ s = true := fun w h => atoms_spec (ws := (.code y_Co_word b_Co_word 2 (some .long) :: AW)) B.pre w (List.mem_cons_of_mem _ h)
  have hown : s.vm.findClass R_Co = some m.cls := findClass_of_methodNamed B.named
  have hlocks := B.notSynchronized
  have hl := lv_entry ([.ref a, .int (nI i)]) (n := 2) (Nat.le_of_ble_eq_true rfl)
  rw [lg_entry_eq]
  generalize (lg_sl ([.ref a, .int (nI i)]) ++ List.replicate (2 - (lg_sl ([.ref a, .int (nI i)])).length) Slot.unset).toArray = ls at hl ⊢
  have hl : lv_has ls 2 [(0, .ref a), (1, .int (nI i))] := hl
  refine lv_iload_n hx hb d_Co_word_0 rfl (lv_at hl 1 rfl) ?_
  refine lv_aload_n hx hb d_Co_word_1 rfl (lv_at hl 0 rfl) ?_
  refine va_get (D := G.1) (ci := 0) (v := .ref aw) (C := R_Co) (T := T_Co) (N := 5) hx hb hA in_Co hown hK.1 (pl_o hP hc) 0 rfl rfl 4 (by decide) (hA _ kw_3) (fun _ h9 => h9) rfl d_Co_word_2 ?_
  refine va_alen (v := nI 96) hx hb hK.1 (pl_o hP hw) 0 0 rfl rfl rfl d_Co_word_5 ?_
  refine vp_callSi (va_Run.run (va_runSN (As := [.int (nI i), .int (nI 96)]) (rest := []) ⟨hx, hb, hml, hown, hA⟩ (c_isBelow l G L f (nI i) (nI 96)) ⟨va_cnB 2 hA (gAW kw_4) rfl rfl rfl (hK.2.1 _ kz_0) (hA _ kw_5) (by decide +kernel) ⟨Nat.le_of_ble_eq_true rfl, Nat.le_of_ble_eq_true rfl⟩, (hA _ kw_6), trivial⟩ (pw_preS hP hK) rfl rfl hl.1 rfl (lv_room (Nat.le_of_ble_eq_true rfl)) d_Co_word_6 ⟨Nat.zero_le _, Nat.zero_le _⟩)) (fun r_1 e_2 => ?_)
  subst e_2
  refine lv_if_eq (tgt := 21) hx hb d_Co_word_9 (by decide) (fun c9 => absurd c9 (by rw [blw_nI (by decide) (by omega), decide_eq_true hi]; decide)) (fun _ => ?_)
  refine lv_aload_n hx hb d_Co_word_12 rfl (lv_at hl 0 rfl) ?_
  refine va_get (D := G.1) (ci := 0) (v := .ref aw) (C := R_Co) (T := T_Co) (N := 5) hx hb hA in_Co hown hK.1 (pl_o hP hc) 0 rfl rfl 4 (by decide) (hA _ kw_3) (fun _ h9 => h9) rfl d_Co_word_13 ?_
  refine lv_iload_n hx hb d_Co_word_16 rfl (lv_at hl 1 rfl) ?_
  refine xl_lald hx hb hK.1 (pl_o hP hw) 0 0 rfl rfl (i := i) hi (by decide) d_Co_word_17 ?_
  refine lv_goto (tgt := 22) hx hb d_Co_word_18 (by decide) ?_
  exact W.lret (v := ww i) hx hb hr (fun t9 h9t h9W => ⟨_, rfl, rfl, h9t⟩) (fun _ h => nomatch h) d_Co_word_22

set_option maxHeartbeats 4000000 in
set_option maxRecDepth 100000 in
/-- RightDesk$ConditionBook.at -/
theorem c_Cb_at (l : Launch) (G : GG) (L : List Nat) (f : Nat → va_E) {cb mA : Nat} {gA : Nat} {cn : Int32} {mk : Nat → Option Nat} (hcb : Lk L f cb (.inr (1, [.ref mA, .ref gA, .int cn]))) (hm : Lk L f mA (.inl (G.2 2, 60, .inr (.inr (.inr (.inr mk)))))) (x : Int32) : Met l y_Cb_at (.code y_Cb_at b_Cb_at 2 (some (.object "RightDesk$Condition")) :: AW) (RM 1) (va_Pc [.ref cb, .int x] (PW G L f)) (va_Sq (fun r => r = oAt 60 mk x)) 0 0 (fun _ => False) := by
  refine Met.ofW (cc := b_Cb_at) (maxL := 2) (ret := (some (.object "RightDesk$Condition"))) (by decide) rfl ?_
  intro p e s m args below meth c s₁ B hml hv
  obtain ⟨rfl, hP, hK⟩ := hv
  have hx := B.exec
  have hb := B.bytes
  have hr := B.returns
  have hA : ∀ w ∈ AW, w.before _ s = true := fun w h => atoms_spec (ws := (.code y_Cb_at b_Cb_at 2 (some (.object "RightDesk$Condition")) :: AW)) B.pre w (List.mem_cons_of_mem _ h)
  have hown : s.vm.findClass R_Cb = some m.cls := findClass_of_methodNamed B.named
  have hlocks := B.notSynchronized
  have hl := lv_entry ([.ref cb, .int x]) (n := 2) (Nat.le_of_ble_eq_true rfl)
  rw [lg_entry_eq]
  generalize (lg_sl ([.ref cb, .int x]) ++ List.replicate (2 - (lg_sl ([.ref cb, .int x])).length) Slot.unset).toArray = ls at hl ⊢
  have hl : lv_has ls 2 [(0, .ref cb), (1, .int x)] := hl
  by_cases hx_ : blw x (nI 60) = true
  · obtain ⟨j, hj, rfl⟩ := blw_of (by decide) hx_
    refine lv_iload_n hx hb d_Cb_at_0 rfl (lv_at hl 1 rfl) ?_
    refine lv_aload_n hx hb d_Cb_at_1 rfl (lv_at hl 0 rfl) ?_
    refine va_get (D := G.1) (ci := 1) (v := .ref mA) (C := R_Cb) (T := T_Cb) (N := 3) hx hb hA in_Cb hown hK.1 (pl_o hP hcb) 0 rfl rfl 0 (by decide) (hA _ kw_7) (fun _ h9 => h9) rfl d_Cb_at_2 ?_
    refine va_alen (v := nI 60) hx hb hK.1 (pl_o hP hm) 0 2 rfl rfl rfl d_Cb_at_5 ?_
    refine vp_callSi (va_Run.run (va_runSN (As := [.int (nI j), .int (nI 60)]) (rest := []) ⟨hx, hb, hml, hown, hA⟩ (c_isBelow l G L f (nI j) (nI 60)) ⟨va_cnB 2 hA (gAW kw_4) rfl rfl rfl (hK.2.1 _ kz_1) (hA _ kw_5) (by decide +kernel) ⟨Nat.le_of_ble_eq_true rfl, Nat.le_of_ble_eq_true rfl⟩, (hA _ kw_6), trivial⟩ (pw_preS hP hK) rfl rfl hl.1 rfl (lv_room (Nat.le_of_ble_eq_true rfl)) d_Cb_at_6 ⟨Nat.zero_le _, Nat.zero_le _⟩)) (fun r_1 e_2 => ?_)
    subst e_2
    refine lv_if_eq (tgt := 21) hx hb d_Cb_at_9 (by decide) (fun c9 => absurd c9 (by rw [hx_]; decide)) (fun _ => ?_)
    refine lv_aload_n hx hb d_Cb_at_12 rfl (lv_at hl 0 rfl) ?_
    refine va_get (D := G.1) (ci := 1) (v := .ref mA) (C := R_Cb) (T := T_Cb) (N := 3) hx hb hA in_Cb hown hK.1 (pl_o hP hcb) 0 rfl rfl 0 (by decide) (hA _ kw_7) (fun _ h9 => h9) rfl d_Cb_at_13 ?_
    refine lv_iload_n hx hb d_Cb_at_16 rfl (lv_at hl 1 rfl) ?_
    refine xl_aldq hx hb hK.1 (pl_o hP hm) 0 2 rfl rfl (i := j) hj (by decide) d_Cb_at_17 ?_
    refine lv_goto (tgt := 22) hx hb d_Cb_at_18 (by decide) ?_
    exact W.aret (v := va_rf (mk j)) hx hb hr (Or.inl ⟨_, rfl⟩) (va_rf_or _) (fun t9 h9t h9W => ⟨mk j, rfl, (oAt_nI hj (by decide)).symm, h9t⟩) (fun _ h => nomatch h) d_Cb_at_22
  · refine lv_iload_n hx hb d_Cb_at_0 rfl (lv_at hl 1 rfl) ?_
    refine lv_aload_n hx hb d_Cb_at_1 rfl (lv_at hl 0 rfl) ?_
    refine va_get (D := G.1) (ci := 1) (v := .ref mA) (C := R_Cb) (T := T_Cb) (N := 3) hx hb hA in_Cb hown hK.1 (pl_o hP hcb) 0 rfl rfl 0 (by decide) (hA _ kw_7) (fun _ h9 => h9) rfl d_Cb_at_2 ?_
    refine va_alen (v := nI 60) hx hb hK.1 (pl_o hP hm) 0 2 rfl rfl rfl d_Cb_at_5 ?_
    refine vp_callSi (va_Run.run (va_runSN (As := [.int x, .int (nI 60)]) (rest := []) ⟨hx, hb, hml, hown, hA⟩ (c_isBelow l G L f x (nI 60)) ⟨va_cnB 2 hA (gAW kw_4) rfl rfl rfl (hK.2.1 _ kz_1) (hA _ kw_5) (by decide +kernel) ⟨Nat.le_of_ble_eq_true rfl, Nat.le_of_ble_eq_true rfl⟩, (hA _ kw_6), trivial⟩ (pw_preS hP hK) rfl rfl hl.1 rfl (lv_room (Nat.le_of_ble_eq_true rfl)) d_Cb_at_6 ⟨Nat.zero_le _, Nat.zero_le _⟩)) (fun r_3 e_4 => ?_)
    subst e_4
    refine lv_if_eq (tgt := 21) hx hb d_Cb_at_9 (by decide) (fun _ => ?_) (fun c9 => absurd (bI_0.mpr (ts_f hx_)) c9)
    refine lv_null hx hb d_Cb_at_21 ?_
    exact W.aret (v := .null) hx hb hr (Or.inl ⟨_, rfl⟩) (Or.inl rfl) (fun t9 h9t h9W => ⟨none, rfl, (oAt_no (ts_f hx_)).symm, h9t⟩) (fun _ h => nomatch h) d_Cb_at_22

set_option maxHeartbeats 4000000 in
set_option maxRecDepth 100000 in
/-- RightDesk$RuleBook.at -/
theorem c_Rb_at (l : Launch) (G : GG) (L : List Nat) (f : Nat → va_E) {cb mA : Nat} {cn : Int32} {mk : Nat → Option Nat} (hcb : Lk L f cb (.inr (3, [.ref mA, .int cn]))) (hm : Lk L f mA (.inl (G.2 3, 20, .inr (.inr (.inr (.inr mk)))))) (x : Int32) : Met l y_Rb_at (.code y_Rb_at b_Rb_at 2 (some (.object "RightDesk$Rule")) :: AW) (RM 1) (va_Pc [.ref cb, .int x] (PW G L f)) (va_Sq (fun r => r = oAt 20 mk x)) 0 0 (fun _ => False) := by
  refine Met.ofW (cc := b_Rb_at) (maxL := 2) (ret := (some (.object "RightDesk$Rule"))) (by decide) rfl ?_
  intro p e s m args below meth c s₁ B hml hv
  obtain ⟨rfl, hP, hK⟩ := hv
  have hx := B.exec
  have hb := B.bytes
  have hr := B.returns
  have hA : ∀ w ∈ AW, w.before _ s = true := fun w h => atoms_spec (ws := (.code y_Rb_at b_Rb_at 2 (some (.object "RightDesk$Rule")) :: AW)) B.pre w (List.mem_cons_of_mem _ h)
  have hown : s.vm.findClass R_Rb = some m.cls := findClass_of_methodNamed B.named
  have hlocks := B.notSynchronized
  have hl := lv_entry ([.ref cb, .int x]) (n := 2) (Nat.le_of_ble_eq_true rfl)
  rw [lg_entry_eq]
  generalize (lg_sl ([.ref cb, .int x]) ++ List.replicate (2 - (lg_sl ([.ref cb, .int x])).length) Slot.unset).toArray = ls at hl ⊢
  have hl : lv_has ls 2 [(0, .ref cb), (1, .int x)] := hl
  by_cases hx_ : blw x (nI 20) = true
  · obtain ⟨j, hj, rfl⟩ := blw_of (by decide) hx_
    refine lv_iload_n hx hb d_Rb_at_0 rfl (lv_at hl 1 rfl) ?_
    refine lv_aload_n hx hb d_Rb_at_1 rfl (lv_at hl 0 rfl) ?_
    refine va_get (D := G.1) (ci := 3) (v := .ref mA) (C := R_Rb) (T := T_Rb) (N := 2) hx hb hA in_Rb hown hK.1 (pl_o hP hcb) 0 rfl rfl 0 (by decide) (hA _ kw_8) (fun _ h9 => h9) rfl d_Rb_at_2 ?_
    refine va_alen (v := nI 20) hx hb hK.1 (pl_o hP hm) 0 3 rfl rfl rfl d_Rb_at_5 ?_
    refine vp_callSi (va_Run.run (va_runSN (As := [.int (nI j), .int (nI 20)]) (rest := []) ⟨hx, hb, hml, hown, hA⟩ (c_isBelow l G L f (nI j) (nI 20)) ⟨va_cnB 2 hA (gAW kw_4) rfl rfl rfl (hK.2.1 _ kz_2) (hA _ kw_5) (by decide +kernel) ⟨Nat.le_of_ble_eq_true rfl, Nat.le_of_ble_eq_true rfl⟩, (hA _ kw_6), trivial⟩ (pw_preS hP hK) rfl rfl hl.1 rfl (lv_room (Nat.le_of_ble_eq_true rfl)) d_Rb_at_6 ⟨Nat.zero_le _, Nat.zero_le _⟩)) (fun r_1 e_2 => ?_)
    subst e_2
    refine lv_if_eq (tgt := 21) hx hb d_Rb_at_9 (by decide) (fun c9 => absurd c9 (by rw [hx_]; decide)) (fun _ => ?_)
    refine lv_aload_n hx hb d_Rb_at_12 rfl (lv_at hl 0 rfl) ?_
    refine va_get (D := G.1) (ci := 3) (v := .ref mA) (C := R_Rb) (T := T_Rb) (N := 2) hx hb hA in_Rb hown hK.1 (pl_o hP hcb) 0 rfl rfl 0 (by decide) (hA _ kw_8) (fun _ h9 => h9) rfl d_Rb_at_13 ?_
    refine lv_iload_n hx hb d_Rb_at_16 rfl (lv_at hl 1 rfl) ?_
    refine xl_aldq hx hb hK.1 (pl_o hP hm) 0 3 rfl rfl (i := j) hj (by decide) d_Rb_at_17 ?_
    refine lv_goto (tgt := 22) hx hb d_Rb_at_18 (by decide) ?_
    exact W.aret (v := va_rf (mk j)) hx hb hr (Or.inl ⟨_, rfl⟩) (va_rf_or _) (fun t9 h9t h9W => ⟨mk j, rfl, (oAt_nI hj (by decide)).symm, h9t⟩) (fun _ h => nomatch h) d_Rb_at_22
  · refine lv_iload_n hx hb d_Rb_at_0 rfl (lv_at hl 1 rfl) ?_
    refine lv_aload_n hx hb d_Rb_at_1 rfl (lv_at hl 0 rfl) ?_
    refine va_get (D := G.1) (ci := 3) (v := .ref mA) (C := R_Rb) (T := T_Rb) (N := 2) hx hb hA in_Rb hown hK.1 (pl_o hP hcb) 0 rfl rfl 0 (by decide) (hA _ kw_8) (fun _ h9 => h9) rfl d_Rb_at_2 ?_
    refine va_alen (v := nI 20) hx hb hK.1 (pl_o hP hm) 0 3 rfl rfl rfl d_Rb_at_5 ?_
    refine vp_callSi (va_Run.run (va_runSN (As := [.int x, .int (nI 20)]) (rest := []) ⟨hx, hb, hml, hown, hA⟩ (c_isBelow l G L f x (nI 20)) ⟨va_cnB 2 hA (gAW kw_4) rfl rfl rfl (hK.2.1 _ kz_2) (hA _ kw_5) (by decide +kernel) ⟨Nat.le_of_ble_eq_true rfl, Nat.le_of_ble_eq_true rfl⟩, (hA _ kw_6), trivial⟩ (pw_preS hP hK) rfl rfl hl.1 rfl (lv_room (Nat.le_of_ble_eq_true rfl)) d_Rb_at_6 ⟨Nat.zero_le _, Nat.zero_le _⟩)) (fun r_3 e_4 => ?_)
    subst e_4
    refine lv_if_eq (tgt := 21) hx hb d_Rb_at_9 (by decide) (fun _ => ?_) (fun c9 => absurd (bI_0.mpr (ts_f hx_)) c9)
    refine lv_null hx hb d_Rb_at_21 ?_
    exact W.aret (v := .null) hx hb hr (Or.inl ⟨_, rfl⟩) (Or.inl rfl) (fun t9 h9t h9W => ⟨none, rfl, (oAt_no (ts_f hx_)).symm, h9t⟩) (fun _ h => nomatch h) d_Rb_at_22

set_option maxHeartbeats 4000000 in
set_option maxRecDepth 100000 in
/-- Rule.word -/
theorem c_Ru_word (l : Launch) (G : GG) (L : List Nat) (f : Nat → va_E) {k0 k1 k2 k3 : Int32} {a aw : Nat} {ww : Nat → Int64} (hc : Lk L f a (.inr (0, [.int k0, .int k1, .int k2, .int k3, .ref aw]))) (hw : Lk L f aw (.inl (G.2 0, 96, .inr (.inl ww)))) {q : Nat} {rk dn no : Int32} (hq : Lk L f q (.inr (2, [.int rk, .int dn, .ref a, .int no])))  (i : Nat) (hi : i < 96) : Met l y_Ru_word (.code y_Ru_word b_Ru_word 2 (some .long) :: AW) (RM 2) (va_Pc [.ref q, .int (nI i)] (PW G L f)) (vp_Sl (fun r => r = ww i)) 0 0 (fun _ => False) := by
  refine Met.ofW (cc := b_Ru_word) (maxL := 2) (ret := (some .long)) (by decide) rfl ?_
  intro p e s m args below meth c s₁ B hml hv
  obtain ⟨rfl, hP, hK⟩ := hv
  have hx := B.exec
  have hb := B.bytes
  have hr := B.returns
  have hA : ∀ w ∈ AW, w.before _ s = true := fun w h => atoms_spec (ws := (.code y_Ru_word b_Ru_word 2 (some .long) :: AW)) B.pre w (List.mem_cons_of_mem _ h)
  have hown : s.vm.findClass R_Ru = some m.cls := findClass_of_methodNamed B.named
  have hlocks := B.notSynchronized
  have hl := lv_entry ([.ref q, .int (nI i)]) (n := 2) (Nat.le_of_ble_eq_true rfl)
  rw [lg_entry_eq]
  generalize (lg_sl ([.ref q, .int (nI i)]) ++ List.replicate (2 - (lg_sl ([.ref q, .int (nI i)])).length) Slot.unset).toArray = ls at hl ⊢
  have hl : lv_has ls 2 [(0, .ref q), (1, .int (nI i))] := hl
  refine lv_aload_n hx hb d_Ru_word_0 rfl (lv_at hl 0 rfl) ?_
  refine va_get (D := G.1) (ci := 2) (v := .ref a) (C := R_Ru) (T := T_Ru) (N := 4) hx hb hA in_Ru hown hK.1 (pl_o hP hq) 0 rfl rfl 2 (by decide) (hA _ kw_9) (fun _ h9 => h9) rfl d_Ru_word_1 ?_
  refine lv_iload_n hx hb d_Ru_word_4 rfl (lv_at hl 1 rfl) ?_
  refine vp_callSl (va_Run.run (va_runVN (As := [.int (nI i)]) (rest := []) ⟨hx, hb, hml, hown, hA⟩ (c_Co_word l G L f hc hw i hi) ⟨va_cnB 1 hA (gAW kw_10) rfl rfl rfl (hK.2.1 _ kz_3) (hA _ kw_11) (by decide +kernel) ⟨Nat.le_of_ble_eq_true rfl, Nat.le_of_ble_eq_true rfl⟩, (hA _ kw_12), (hA _ kw_13)⟩ (pw_preV (ci := 0) hP hK hc rfl) rfl rfl hl.1 rfl (lv_room (Nat.le_of_ble_eq_true rfl)) d_Ru_word_5 ⟨Nat.zero_le _, Nat.zero_le _⟩)) (fun r_1 e_2 => ?_)
  subst e_2
  exact W.lret (v := ww i) hx hb hr (fun t9 h9t h9W => ⟨_, rfl, rfl, h9t⟩) (fun _ h => nomatch h) d_Ru_word_8

set_option maxHeartbeats 4000000 in
set_option maxRecDepth 100000 in
/-- Rule.goesBefore -/
theorem c_Ru_gob (l : Launch) (G : GG) (L : List Nat) (f : Nat → va_E) {q1 q2 r1 r2 a1 a2 : Nat} {d1 d2 : Bool} {n1 n2 : Int32} (h1 : Lk L f q1 (.inr (2, [.int (nI r1), .int (bI d1), .ref a1, .int n1]))) (h2 : Lk L f q2 (.inr (2, [.int (nI r2), .int (bI d2), .ref a2, .int n2]))) (hr1 : r1 < 10) (hr2 : r2 < 10) : Met l y_Ru_goesBefore (.code y_Ru_goesBefore b_Ru_goesBefore 2 (some .boolean) :: AW) (RM 0) (va_Pc [.ref q1, .ref q2] (PW G L f)) (vp_Si (fun r => r = bI (gob r1 d1 r2 d2))) 0 0 (fun _ => False) := by
  refine Met.ofW (cc := b_Ru_goesBefore) (maxL := 2) (ret := (some .boolean)) (by decide) rfl ?_
  intro p e s m args below meth c s₁ B hml hv
  obtain ⟨rfl, hP, hK⟩ := hv
  have hx := B.exec
  have hb := B.bytes
  have hr := B.returns
  have hA : ∀ w ∈ AW, w.before _ s = true := fun w h => atoms_spec (ws := (.code y_Ru_goesBefore b_Ru_goesBefore 2 (some .boolean) :: AW)) B.pre w (List.mem_cons_of_mem _ h)
  have hown : s.vm.findClass R_Ru = some m.cls := findClass_of_methodNamed B.named
  have hlocks := B.notSynchronized
  have hl := lv_entry ([.ref q1, .ref q2]) (n := 2) (Nat.le_of_ble_eq_true rfl)
  rw [lg_entry_eq]
  generalize (lg_sl ([.ref q1, .ref q2]) ++ List.replicate (2 - (lg_sl ([.ref q1, .ref q2])).length) Slot.unset).toArray = ls at hl ⊢
  have hl : lv_has ls 2 [(0, .ref q1), (1, .ref q2)] := hl
  by_cases hlt : r1 < r2
  · refine lv_aload_n hx hb d_Ru_goesBefore_0 rfl (lv_at hl 0 rfl) ?_
    refine va_get (D := G.1) (ci := 2) (v := .int (nI r1)) (C := R_Ru) (T := T_Ru) (N := 4) hx hb hA in_Ru hown hK.1 (pl_o hP h1) 0 rfl rfl 0 (by decide) (hA _ kw_14) (fun _ h9 => h9) rfl d_Ru_goesBefore_1 ?_
    refine lv_aload_n hx hb d_Ru_goesBefore_4 rfl (lv_at hl 1 rfl) ?_
    refine va_get (D := G.1) (ci := 2) (v := .int (nI r2)) (C := R_Ru) (T := T_Ru) (N := 4) hx hb hA in_Ru hown hK.1 (pl_o hP h2) 0 rfl rfl 0 (by decide) (hA _ kw_14) (fun _ h9 => h9) rfl d_Ru_goesBefore_5 ?_
    refine lv_icmp_lt (tgt := 36) hx hb d_Ru_goesBefore_8 (by decide) (fun _ => ?_) (fun c9 => absurd (nI_lt hlt (by omega)) c9)
    refine lv_iconst (v := nI 1) hx hb d_Ru_goesBefore_36 (by decide) ?_
    refine lv_goto (tgt := 41) hx hb d_Ru_goesBefore_37 (by decide) ?_
    exact W.zret (v := nI 1) (ty := .boolean) hx hb hr (bI_nar true) (fun t9 h9t h9W => ⟨_, rfl, by unfold gob; rw [decide_eq_true hlt]; rfl, h9t⟩) (fun _ h => nomatch h) d_Ru_goesBefore_41
  · refine lv_aload_n hx hb d_Ru_goesBefore_0 rfl (lv_at hl 0 rfl) ?_
    refine va_get (D := G.1) (ci := 2) (v := .int (nI r1)) (C := R_Ru) (T := T_Ru) (N := 4) hx hb hA in_Ru hown hK.1 (pl_o hP h1) 0 rfl rfl 0 (by decide) (hA _ kw_14) (fun _ h9 => h9) rfl d_Ru_goesBefore_1 ?_
    refine lv_aload_n hx hb d_Ru_goesBefore_4 rfl (lv_at hl 1 rfl) ?_
    refine va_get (D := G.1) (ci := 2) (v := .int (nI r2)) (C := R_Ru) (T := T_Ru) (N := 4) hx hb hA in_Ru hown hK.1 (pl_o hP h2) 0 rfl rfl 0 (by decide) (hA _ kw_14) (fun _ h9 => h9) rfl d_Ru_goesBefore_5 ?_
    refine lv_icmp_lt (tgt := 36) hx hb d_Ru_goesBefore_8 (by decide) (fun c9 => absurd c9 (nI_nlt (by omega) (by omega))) (fun _ => ?_)
    by_cases hne : r1 = r2
    · obtain rfl : r1 = r2 := hne
      refine lv_aload_n hx hb d_Ru_goesBefore_11 rfl (lv_at hl 0 rfl) ?_
      refine va_get (D := G.1) (ci := 2) (v := .int (nI r1)) (C := R_Ru) (T := T_Ru) (N := 4) hx hb hA in_Ru hown hK.1 (pl_o hP h1) 0 rfl rfl 0 (by decide) (hA _ kw_14) (fun _ h9 => h9) rfl d_Ru_goesBefore_12 ?_
      refine lv_aload_n hx hb d_Ru_goesBefore_15 rfl (lv_at hl 1 rfl) ?_
      refine va_get (D := G.1) (ci := 2) (v := .int (nI r1)) (C := R_Ru) (T := T_Ru) (N := 4) hx hb hA in_Ru hown hK.1 (pl_o hP h2) 0 rfl rfl 0 (by decide) (hA _ kw_14) (fun _ h9 => h9) rfl d_Ru_goesBefore_16 ?_
      refine lv_icmp_ne (tgt := 40) hx hb d_Ru_goesBefore_19 (by decide) (fun c9 => absurd rfl c9) (fun _ => ?_)
      cases d1
      · refine lv_aload_n hx hb d_Ru_goesBefore_22 rfl (lv_at hl 0 rfl) ?_
        refine va_get (D := G.1) (ci := 2) (v := .int (bI false)) (C := R_Ru) (T := T_Ru) (N := 4) hx hb hA in_Ru hown hK.1 (pl_o hP h1) 0 rfl rfl 1 (by decide) (hA _ kw_15) (fun _ h9 => h9) rfl d_Ru_goesBefore_23 ?_
        refine lv_if_eq (tgt := 40) hx hb d_Ru_goesBefore_26 (by decide) (fun _ => ?_) (fun c9 => absurd rfl c9)
        refine lv_iconst (v := nI 0) hx hb d_Ru_goesBefore_40 (by decide) ?_
        exact W.zret (v := nI 0) (ty := .boolean) hx hb hr (bI_nar false) (fun t9 h9t h9W => ⟨_, rfl, by unfold gob; rw [decide_eq_false hlt, decide_eq_true rfl]; rfl, h9t⟩) (fun _ h => nomatch h) d_Ru_goesBefore_41
      · refine lv_aload_n hx hb d_Ru_goesBefore_22 rfl (lv_at hl 0 rfl) ?_
        refine va_get (D := G.1) (ci := 2) (v := .int (bI true)) (C := R_Ru) (T := T_Ru) (N := 4) hx hb hA in_Ru hown hK.1 (pl_o hP h1) 0 rfl rfl 1 (by decide) (hA _ kw_15) (fun _ h9 => h9) rfl d_Ru_goesBefore_23 ?_
        refine lv_if_eq (tgt := 40) hx hb d_Ru_goesBefore_26 (by decide) (fun c9 => absurd c9 (by decide)) (fun _ => ?_)
        cases d2
        · refine lv_aload_n hx hb d_Ru_goesBefore_29 rfl (lv_at hl 1 rfl) ?_
          refine va_get (D := G.1) (ci := 2) (v := .int (bI false)) (C := R_Ru) (T := T_Ru) (N := 4) hx hb hA in_Ru hown hK.1 (pl_o hP h2) 0 rfl rfl 1 (by decide) (hA _ kw_15) (fun _ h9 => h9) rfl d_Ru_goesBefore_30 ?_
          refine lv_if_ne (tgt := 40) hx hb d_Ru_goesBefore_33 (by decide) (fun c9 => absurd rfl c9) (fun _ => ?_)
          refine lv_iconst (v := nI 1) hx hb d_Ru_goesBefore_36 (by decide) ?_
          refine lv_goto (tgt := 41) hx hb d_Ru_goesBefore_37 (by decide) ?_
          exact W.zret (v := nI 1) (ty := .boolean) hx hb hr (bI_nar true) (fun t9 h9t h9W => ⟨_, rfl, by unfold gob; rw [decide_eq_false hlt, decide_eq_true rfl]; rfl, h9t⟩) (fun _ h => nomatch h) d_Ru_goesBefore_41
        · refine lv_aload_n hx hb d_Ru_goesBefore_29 rfl (lv_at hl 1 rfl) ?_
          refine va_get (D := G.1) (ci := 2) (v := .int (bI true)) (C := R_Ru) (T := T_Ru) (N := 4) hx hb hA in_Ru hown hK.1 (pl_o hP h2) 0 rfl rfl 1 (by decide) (hA _ kw_15) (fun _ h9 => h9) rfl d_Ru_goesBefore_30 ?_
          refine lv_if_ne (tgt := 40) hx hb d_Ru_goesBefore_33 (by decide) (fun _ => ?_) (fun c9 => absurd c9 (by decide))
          refine lv_iconst (v := nI 0) hx hb d_Ru_goesBefore_40 (by decide) ?_
          exact W.zret (v := nI 0) (ty := .boolean) hx hb hr (bI_nar false) (fun t9 h9t h9W => ⟨_, rfl, by unfold gob; rw [decide_eq_false hlt, decide_eq_true rfl]; rfl, h9t⟩) (fun _ h => nomatch h) d_Ru_goesBefore_41
    · refine lv_aload_n hx hb d_Ru_goesBefore_11 rfl (lv_at hl 0 rfl) ?_
      refine va_get (D := G.1) (ci := 2) (v := .int (nI r1)) (C := R_Ru) (T := T_Ru) (N := 4) hx hb hA in_Ru hown hK.1 (pl_o hP h1) 0 rfl rfl 0 (by decide) (hA _ kw_14) (fun _ h9 => h9) rfl d_Ru_goesBefore_12 ?_
      refine lv_aload_n hx hb d_Ru_goesBefore_15 rfl (lv_at hl 1 rfl) ?_
      refine va_get (D := G.1) (ci := 2) (v := .int (nI r2)) (C := R_Ru) (T := T_Ru) (N := 4) hx hb hA in_Ru hown hK.1 (pl_o hP h2) 0 rfl rfl 0 (by decide) (hA _ kw_14) (fun _ h9 => h9) rfl d_Ru_goesBefore_16 ?_
      refine lv_icmp_ne (tgt := 40) hx hb d_Ru_goesBefore_19 (by decide) (fun _ => ?_) (fun c9 => absurd c9 (fun q => hne ((nI_eq (by omega) (by omega)).mp q)))
      refine lv_iconst (v := nI 0) hx hb d_Ru_goesBefore_40 (by decide) ?_
      exact W.zret (v := nI 0) (ty := .boolean) hx hb hr (bI_nar false) (fun t9 h9t h9W => ⟨_, rfl, by unfold gob; rw [decide_eq_false hlt, decide_eq_false hne]; rfl, h9t⟩) (fun _ h => nomatch h) d_Ru_goesBefore_41

set_option maxHeartbeats 4000000 in
set_option maxRecDepth 100000 in
/-- Rule.rankBehind -/
theorem c_Ru_rkb (l : Launch) (G : GG) (L : List Nat) (f : Nat → va_E) {q1 r1 a1 : Nat} {d1 : Bool} {n1 : Int32} (h1 : Lk L f q1 (.inr (2, [.int (nI r1), .int (bI d1), .ref a1, .int n1]))) (tt_ : Bool) : Met l y_Ru_rankBehind (.code y_Ru_rankBehind b_Ru_rankBehind 2 (some .int) :: AW) (RM 0) (va_Pc [.ref q1, .int (bI tt_)] (PW G L f)) (vp_Si (fun r => r = nI (rkB r1 d1 tt_))) 0 0 (fun _ => False) := by
  refine Met.ofW (cc := b_Ru_rankBehind) (maxL := 2) (ret := (some .int)) (by decide) rfl ?_
  intro p e s m args below meth c s₁ B hml hv
  obtain ⟨rfl, hP, hK⟩ := hv
  have hx := B.exec
  have hb := B.bytes
  have hr := B.returns
  have hA : ∀ w ∈ AW, w.before _ s = true := fun w h => atoms_spec (ws := (.code y_Ru_rankBehind b_Ru_rankBehind 2 (some .int) :: AW)) B.pre w (List.mem_cons_of_mem _ h)
  have hown : s.vm.findClass R_Ru = some m.cls := findClass_of_methodNamed B.named
  have hlocks := B.notSynchronized
  have hl := lv_entry ([.ref q1, .int (bI tt_)]) (n := 2) (Nat.le_of_ble_eq_true rfl)
  rw [lg_entry_eq]
  generalize (lg_sl ([.ref q1, .int (bI tt_)]) ++ List.replicate (2 - (lg_sl ([.ref q1, .int (bI tt_)])).length) Slot.unset).toArray = ls at hl ⊢
  have hl : lv_has ls 2 [(0, .ref q1), (1, .int (bI tt_))] := hl
  cases tt_
  · refine lv_iload_n hx hb d_Ru_rankBehind_0 rfl (lv_at hl 1 rfl) ?_
    refine lv_if_eq (tgt := 20) hx hb d_Ru_rankBehind_1 (by decide) (fun _ => ?_) (fun c9 => absurd rfl c9)
    refine lv_aload_n hx hb d_Ru_rankBehind_20 rfl (lv_at hl 0 rfl) ?_
    refine va_get (D := G.1) (ci := 2) (v := .int (nI r1)) (C := R_Ru) (T := T_Ru) (N := 4) hx hb hA in_Ru hown hK.1 (pl_o hP h1) 0 rfl rfl 0 (by decide) (hA _ kw_14) (fun _ h9 => h9) rfl d_Ru_rankBehind_21 ?_
    exact W.iret (v := nI r1) hx hb hr (fun t9 h9t h9W => ⟨_, rfl, rfl, h9t⟩) (fun _ h => nomatch h) d_Ru_rankBehind_24
  · refine lv_iload_n hx hb d_Ru_rankBehind_0 rfl (lv_at hl 1 rfl) ?_
    refine lv_if_eq (tgt := 20) hx hb d_Ru_rankBehind_1 (by decide) (fun c9 => absurd c9 (by decide)) (fun _ => ?_)
    cases d1
    · refine lv_aload_n hx hb d_Ru_rankBehind_4 rfl (lv_at hl 0 rfl) ?_
      refine va_get (D := G.1) (ci := 2) (v := .int (bI false)) (C := R_Ru) (T := T_Ru) (N := 4) hx hb hA in_Ru hown hK.1 (pl_o hP h1) 0 rfl rfl 1 (by decide) (hA _ kw_15) (fun _ h9 => h9) rfl d_Ru_rankBehind_5 ?_
      refine lv_if_ne (tgt := 20) hx hb d_Ru_rankBehind_8 (by decide) (fun c9 => absurd rfl c9) (fun _ => ?_)
      refine lv_aload_n hx hb d_Ru_rankBehind_11 rfl (lv_at hl 0 rfl) ?_
      refine va_get (D := G.1) (ci := 2) (v := .int (nI r1)) (C := R_Ru) (T := T_Ru) (N := 4) hx hb hA in_Ru hown hK.1 (pl_o hP h1) 0 rfl rfl 0 (by decide) (hA _ kw_14) (fun _ h9 => h9) rfl d_Ru_rankBehind_12 ?_
      refine lv_iconst (v := nI 1) hx hb d_Ru_rankBehind_15 (by decide) ?_
      refine lv_iadd hx hb d_Ru_rankBehind_16 ?_
      refine xv_I (y := nI (r1 + 1)) (nI_1 r1) ?_
      refine lv_goto (tgt := 24) hx hb d_Ru_rankBehind_17 (by decide) ?_
      exact W.iret (v := nI (r1 + 1)) hx hb hr (fun t9 h9t h9W => ⟨_, rfl, rfl, h9t⟩) (fun _ h => nomatch h) d_Ru_rankBehind_24
    · refine lv_aload_n hx hb d_Ru_rankBehind_4 rfl (lv_at hl 0 rfl) ?_
      refine va_get (D := G.1) (ci := 2) (v := .int (bI true)) (C := R_Ru) (T := T_Ru) (N := 4) hx hb hA in_Ru hown hK.1 (pl_o hP h1) 0 rfl rfl 1 (by decide) (hA _ kw_15) (fun _ h9 => h9) rfl d_Ru_rankBehind_5 ?_
      refine lv_if_ne (tgt := 20) hx hb d_Ru_rankBehind_8 (by decide) (fun _ => ?_) (fun c9 => absurd c9 (by decide))
      refine lv_aload_n hx hb d_Ru_rankBehind_20 rfl (lv_at hl 0 rfl) ?_
      refine va_get (D := G.1) (ci := 2) (v := .int (nI r1)) (C := R_Ru) (T := T_Ru) (N := 4) hx hb hA in_Ru hown hK.1 (pl_o hP h1) 0 rfl rfl 0 (by decide) (hA _ kw_14) (fun _ h9 => h9) rfl d_Ru_rankBehind_21 ?_
      exact W.iret (v := nI r1) hx hb hr (fun t9 h9t h9W => ⟨_, rfl, rfl, h9t⟩) (fun _ h => nomatch h) d_Ru_rankBehind_24

set_option maxHeartbeats 4000000 in
set_option maxRecDepth 100000 in
/-- twoOfThree -/
theorem c_Cb_two3 (l : Launch) (G : GG) (L : List Nat) (f : Nat → va_E) (x y z : Int64) : Met l y_Cb_twoOfThree (.code y_Cb_twoOfThree b_Cb_twoOfThree 6 (some .long) :: AW) (RM 0) (va_Pc [.long x, .long y, .long z] (PW G L f)) (vp_Sl (fun r => r = two3 x y z)) 0 0 (fun _ => False) := by
  refine Met.ofW (cc := b_Cb_twoOfThree) (maxL := 6) (ret := (some .long)) (by decide) rfl ?_
  intro p e s m args below meth c s₁ B hml hv
  obtain ⟨rfl, hP, hK⟩ := hv
  have hx := B.exec
  have hb := B.bytes
  have hr := B.returns
  have hA : ∀ w ∈ AW, w.before _ s = true := fun w h => atoms_spec (ws := (.code y_Cb_twoOfThree b_Cb_twoOfThree 6 (some .long) :: AW)) B.pre w (List.mem_cons_of_mem _ h)
  have hown : s.vm.findClass R_Cb = some m.cls := findClass_of_methodNamed B.named
  have hlocks := B.notSynchronized
  have hl := lv_entry ([.long x, .long y, .long z]) (n := 6) (Nat.le_of_ble_eq_true rfl)
  rw [lg_entry_eq]
  generalize (lg_sl ([.long x, .long y, .long z]) ++ List.replicate (6 - (lg_sl ([.long x, .long y, .long z])).length) Slot.unset).toArray = ls at hl ⊢
  have hl : lv_has ls 6 [(0, .long x), (2, .long y), (4, .long z)] := hl
  refine lv_lload_n hx hb d_Cb_twoOfThree_0 rfl (lv_at hl 0 rfl) ?_
  refine lv_lload_n hx hb d_Cb_twoOfThree_1 rfl (lv_at hl 1 rfl) ?_
  refine lv_land hx hb d_Cb_twoOfThree_2 ?_
  refine lv_lload_n hx hb d_Cb_twoOfThree_3 rfl (lv_at hl 0 rfl) ?_
  refine lv_lload hx hb d_Cb_twoOfThree_4 (lv_at hl 2 rfl) ?_
  refine lv_land hx hb d_Cb_twoOfThree_6 ?_
  refine lv_lor hx hb d_Cb_twoOfThree_7 ?_
  refine lv_lload_n hx hb d_Cb_twoOfThree_8 rfl (lv_at hl 1 rfl) ?_
  refine lv_lload hx hb d_Cb_twoOfThree_9 (lv_at hl 2 rfl) ?_
  refine lv_land hx hb d_Cb_twoOfThree_11 ?_
  refine lv_lor hx hb d_Cb_twoOfThree_12 ?_
  exact W.lret (v := ((x &&& y) ||| (x &&& z)) ||| (y &&& z)) hx hb hr (fun t9 h9t h9W => ⟨_, rfl, rfl, h9t⟩) (fun _ h => nomatch h) d_Cb_twoOfThree_13

set_option maxHeartbeats 4000000 in
set_option maxRecDepth 100000 in
/-- predicateIn -/
theorem c_Cb_pr (l : Launch) (G : GG) (L : List Nat) (f : Nat → va_E) (u v : Nat) (hu : u < 96) (hv_ : v < 6) : Met l y_Cb_predicateIn (.code y_Cb_predicateIn b_Cb_predicateIn 2 (some .long) :: AW) (RM 0) (va_Pc [.int (nI u), .int (nI v)] (PW G L f)) (vp_Sl (fun r => r = prW u v)) 0 0 (fun _ => False) := by
  refine Met.ofW (cc := b_Cb_predicateIn) (maxL := 2) (ret := (some .long)) (by decide) rfl ?_
  intro p e s m args below meth c s₁ B hml hv
  obtain ⟨rfl, hP, hK⟩ := hv
  have hx := B.exec
  have hb := B.bytes
  have hr := B.returns
  have hA : ∀ w ∈ AW, w.before _ s = true := fun w h => atoms_spec (ws := (.code y_Cb_predicateIn b_Cb_predicateIn 2 (some .long) :: AW)) B.pre w (List.mem_cons_of_mem _ h)
  have hown : s.vm.findClass R_Cb = some m.cls := findClass_of_methodNamed B.named
  have hlocks := B.notSynchronized
  have hl := lv_entry ([.int (nI u), .int (nI v)]) (n := 2) (Nat.le_of_ble_eq_true rfl)
  rw [lg_entry_eq]
  generalize (lg_sl ([.int (nI u), .int (nI v)]) ++ List.replicate (2 - (lg_sl ([.int (nI u), .int (nI v)])).length) Slot.unset).toArray = ls at hl ⊢
  have hl : lv_has ls 2 [(0, .int (nI u)), (1, .int (nI v))] := hl
  refine lv_iload_n hx hb d_Cb_predicateIn_0 rfl (lv_at hl 0 rfl) ?_
  refine lv_iconst (v := nI 3) hx hb d_Cb_predicateIn_1 (by decide) ?_
  refine lv_irem hx hb d_Cb_predicateIn_2 (by decide) ?_
  refine xv_I (y := nI (u % 3)) (pk_rem (by omega) (by decide) (by decide)) ?_
  refine lv_iload_n hx hb d_Cb_predicateIn_3 rfl (lv_at hl 1 rfl) ?_
  refine lv_iconst (v := nI 2) hx hb d_Cb_predicateIn_4 (by decide) ?_
  refine lv_idiv hx hb d_Cb_predicateIn_5 (by decide) ?_
  refine xv_I (y := nI (v / 2)) (pk_div (by omega) (by decide) (by decide)) ?_
  by_cases he : u % 3 = v / 2
  · refine lv_icmp_eq (tgt := 11) hx hb d_Cb_predicateIn_6 (by decide) (fun _ => ?_) (fun c9 => absurd (congrArg nI he) c9)
    refine lv_ldc2 (v := 4294967295) hx hb hown (hA _ kw_16) d_Cb_predicateIn_11 ?_
    refine lv_iload_n hx hb d_Cb_predicateIn_14 rfl (lv_at hl 1 rfl) ?_
    refine lv_iconst (v := nI 2) hx hb d_Cb_predicateIn_15 (by decide) ?_
    refine lv_irem hx hb d_Cb_predicateIn_16 (by decide) ?_
    refine xv_I (y := nI (v % 2)) (pk_rem (by omega) (by decide) (by decide)) ?_
    refine lv_iconst (v := nI 4) hx hb d_Cb_predicateIn_17 (by decide) ?_
    refine lv_imul hx hb d_Cb_predicateIn_18 ?_
    refine xv_I (y := nI (v % 2 * 4)) (pk_mul _ _) ?_
    refine lv_bipush (v := nI 8) hx hb d_Cb_predicateIn_19 (by decide) ?_
    refine lv_imul hx hb d_Cb_predicateIn_21 ?_
    refine xv_I (y := nI (v % 2 * 4 * 8)) (pk_mul _ _) ?_
    refine lv_lshl (v := 4294967295 <<< (Int32.toInt64 (nI (v % 2 * 4 * 8)) &&& 63)) hx hb d_Cb_predicateIn_22 rfl ?_
    exact W.lret (v := 4294967295 <<< (Int32.toInt64 (nI (v % 2 * 4 * 8)) &&& 63)) hx hb hr (fun t9 h9t h9W => ⟨_, rfl, by unfold prW; rw [if_pos he]; rfl, h9t⟩) (fun _ h => nomatch h) d_Cb_predicateIn_23
  · refine lv_icmp_eq (tgt := 11) hx hb d_Cb_predicateIn_6 (by decide) (fun c9 => absurd c9 (fun q => he ((nI_eq (by omega) (by omega)).mp q))) (fun _ => ?_)
    refine lv_lconst (v := 0) hx hb d_Cb_predicateIn_9 (by decide) ?_
    exact W.lret (v := 0) hx hb hr (fun t9 h9t h9W => ⟨_, rfl, by unfold prW; rw [if_neg he], h9t⟩) (fun _ h => nomatch h) d_Cb_predicateIn_10

set_option maxHeartbeats 4000000 in
set_option maxRecDepth 100000 in
/-- versionsFromTo -/
theorem c_De_vf (l : Launch) (G : GG) (L : List Nat) (f : Nat → va_E) (u v : Nat) (hu : u < 8) (hv_ : v < 8) : Met l y_De_versionsFromTo (.code y_De_versionsFromTo b_De_versionsFromTo 5 (some .long) :: AW) (RM 0) (va_Pc [.int (nI u), .int (nI v)] (PW G L f)) (vp_Sl (fun r => r = vfR u v 8)) 0 0 (fun _ => False) := by
  refine Met.ofW (cc := b_De_versionsFromTo) (maxL := 5) (ret := (some .long)) (by decide) rfl ?_
  intro p e s m args below meth c s₁ B hml hv
  obtain ⟨rfl, hP, hK⟩ := hv
  have hx := B.exec
  have hb := B.bytes
  have hr := B.returns
  have hA : ∀ w ∈ AW, w.before _ s = true := fun w h => atoms_spec (ws := (.code y_De_versionsFromTo b_De_versionsFromTo 5 (some .long) :: AW)) B.pre w (List.mem_cons_of_mem _ h)
  have hown : s.vm.findClass R_De = some m.cls := findClass_of_methodNamed B.named
  have hlocks := B.notSynchronized
  have hl := lv_entry ([.int (nI u), .int (nI v)]) (n := 5) (Nat.le_of_ble_eq_true rfl)
  rw [lg_entry_eq]
  generalize (lg_sl ([.int (nI u), .int (nI v)]) ++ List.replicate (5 - (lg_sl ([.int (nI u), .int (nI v)])).length) Slot.unset).toArray = ls at hl ⊢
  have hl : lv_has ls 5 [(0, .int (nI u)), (1, .int (nI v))] := hl
  refine lv_lconst (v := 0) hx hb d_De_versionsFromTo_0 (by decide) ?_
  refine lv_lstore_n (lv' := [(2, .long 0), (0, .int (nI u)), (1, .int (nI v))]) hx hb d_De_versionsFromTo_1 rfl hl (by decide) rfl (fun ls hl => ?_)
  refine lv_iconst (v := nI 0) hx hb d_De_versionsFromTo_2 (by decide) ?_
  refine lv_istore (lv' := [(4, .int (nI 0)), (2, .long 0), (0, .int (nI u)), (1, .int (nI v))]) hx hb d_De_versionsFromTo_3 hl (by decide) rfl (fun ls hl => ?_)
  have loop : ∀ (k i : Nat) (ls : Array Slot), i + k = 8 → lv_has ls 5 [(0, .int (nI u)), (1, .int (nI v)), (2, .long (vfR u v i)), (4, .int (nI i))] → W p l e (headSpec (.code y_De_versionsFromTo b_De_versionsFromTo 5 (some .long) :: AW) (RM 0)).room s m ([.int (nI u), .int (nI v)] : List Value).toArray below meth c s.heap [] 0 0 (MQ below (vp_Sl (fun r => r = vfR u v 8)) ([.int (nI u), .int (nI v)] : List Value).toArray s 0 0 (fun _ => False)) (F0 m 5 ls []) := by
    intro k
    induction k with
    | zero =>
      intro i  ls hik  hl
      refine lv_iload hx hb d_De_versionsFromTo_5 (lv_at hl 3 rfl) ?_
      refine lv_bipush (v := nI 8) hx hb d_De_versionsFromTo_7 (by decide) ?_
      refine lv_icmp_ge (tgt := 39) hx hb d_De_versionsFromTo_9 (by decide) (fun _ => ?_) (fun c9 => absurd (nI_le (by omega) (by omega)) c9)
      refine lv_lload_n hx hb d_De_versionsFromTo_39 rfl (lv_at hl 2 rfl) ?_
      exact W.lret (v := vfR u v i) hx hb hr (fun t9 h9t h9W => ⟨_, rfl, by rw [show i = 8 by omega], h9t⟩) (fun _ h => nomatch h) d_De_versionsFromTo_40
    | succ k ih =>
      intro i  ls hik  hl
      refine lv_iload hx hb d_De_versionsFromTo_5 (lv_at hl 3 rfl) ?_
      refine lv_bipush (v := nI 8) hx hb d_De_versionsFromTo_7 (by decide) ?_
      refine lv_icmp_ge (tgt := 39) hx hb d_De_versionsFromTo_9 (by decide) (fun c9 => absurd c9 (nI_ge (by omega) (by omega))) (fun _ => ?_)
      by_cases hlo : i < u
      · refine lv_iload hx hb d_De_versionsFromTo_12 (lv_at hl 3 rfl) ?_
        refine lv_iload_n hx hb d_De_versionsFromTo_14 rfl (lv_at hl 0 rfl) ?_
        refine lv_icmp_lt (tgt := 33) hx hb d_De_versionsFromTo_15 (by decide) (fun _ => ?_) (fun c9 => absurd (nI_lt hlo (by omega)) c9)
        refine lv_iinc (v := nI (i + 1)) (lv' := [(4, .int (nI (i + 1))), (0, .int (nI u)), (1, .int (nI v)), (2, .long (vfR u v i))]) hx hb d_De_versionsFromTo_33 hl (k := 3) rfl (nI_1 i) (by decide) rfl (fun ls hl => ?_)
        refine lv_goto (tgt := 5) hx hb d_De_versionsFromTo_36 (by decide) ?_
        exact ih (i + 1) ls (by omega) (by rw [show vfR u v (i + 1) = _ from if_neg (fun q => by omega)]; exact lv_sub hl [1, 2, 3, 0] rfl)
      · refine lv_iload hx hb d_De_versionsFromTo_12 (lv_at hl 3 rfl) ?_
        refine lv_iload_n hx hb d_De_versionsFromTo_14 rfl (lv_at hl 0 rfl) ?_
        refine lv_icmp_lt (tgt := 33) hx hb d_De_versionsFromTo_15 (by decide) (fun c9 => absurd c9 (nI_nlt (by omega) (by omega))) (fun _ => ?_)
        refine lv_iload hx hb d_De_versionsFromTo_18 (lv_at hl 3 rfl) ?_
        refine lv_iload_n hx hb d_De_versionsFromTo_20 rfl (lv_at hl 1 rfl) ?_
        by_cases hup : v < i
        · refine lv_icmp_gt (tgt := 33) hx hb d_De_versionsFromTo_21 (by decide) (fun _ => ?_) (fun c9 => absurd (nI_lt hup (by omega)) c9)
          refine lv_iinc (v := nI (i + 1)) (lv' := [(4, .int (nI (i + 1))), (0, .int (nI u)), (1, .int (nI v)), (2, .long (vfR u v i))]) hx hb d_De_versionsFromTo_33 hl (k := 3) rfl (nI_1 i) (by decide) rfl (fun ls hl => ?_)
          refine lv_goto (tgt := 5) hx hb d_De_versionsFromTo_36 (by decide) ?_
          exact ih (i + 1) ls (by omega) (by rw [show vfR u v (i + 1) = _ from if_neg (fun q => by omega)]; exact lv_sub hl [1, 2, 3, 0] rfl)
        · refine lv_icmp_gt (tgt := 33) hx hb d_De_versionsFromTo_21 (by decide) (fun c9 => absurd c9 (nI_nlt (by omega) (by omega))) (fun _ => ?_)
          refine lv_lload_n hx hb d_De_versionsFromTo_24 rfl (lv_at hl 2 rfl) ?_
          refine lv_ldc2 (v := 72340172838076673) hx hb hown (hA _ kw_17) d_De_versionsFromTo_25 ?_
          refine lv_iload hx hb d_De_versionsFromTo_28 (lv_at hl 3 rfl) ?_
          refine lv_lshl (v := 72340172838076673 <<< (Int32.toInt64 (nI i) &&& 63)) hx hb d_De_versionsFromTo_30 rfl ?_
          refine lv_lor hx hb d_De_versionsFromTo_31 ?_
          refine lv_lstore_n (lv' := [(2, .long ((vfR u v i) ||| (72340172838076673 <<< (Int32.toInt64 (nI i) &&& 63)))), (0, .int (nI u)), (1, .int (nI v)), (4, .int (nI i))]) hx hb d_De_versionsFromTo_32 rfl hl (by decide) rfl (fun ls hl => ?_)
          refine lv_iinc (v := nI (i + 1)) (lv' := [(4, .int (nI (i + 1))), (2, .long ((vfR u v i) ||| (72340172838076673 <<< (Int32.toInt64 (nI i) &&& 63)))), (0, .int (nI u)), (1, .int (nI v))]) hx hb d_De_versionsFromTo_33 hl (k := 3) rfl (nI_1 i) (by decide) rfl (fun ls hl => ?_)
          refine lv_goto (tgt := 5) hx hb d_De_versionsFromTo_36 (by decide) ?_
          exact ih (i + 1) ls (by omega) (by rw [show vfR u v (i + 1) = _ from if_pos ⟨by omega, by omega⟩]; exact lv_sub hl [2, 3, 1, 0] rfl)
  exact loop (8 - 0) 0  ls (by omega)  (lv_sub hl [2, 3, 1, 0] rfl)

set_option maxHeartbeats 4000000 in
set_option maxRecDepth 100000 in
/-- wordOf -/
theorem c_Cb_wordOf (l : Launch) (G : GG) (L : List Nat) (f : Nat → va_E) {cb mA gA n : Nat} {ad wa kd : Nat → Nat} {ka kb kc : Nat → Int32} {wd : Nat → Nat → Int64} {mm : Nat → Bool} (hB : CoB G L f cb mA gA n ad wa kd ka kb kc wd mm) (i j : Nat) (hi : i < n) (hj : j < 96) : Met l y_Cb_wordOf (.code y_Cb_wordOf b_Cb_wordOf 4 (some .long) :: AW) (RM 2) (va_Pc [.ref cb, .int (nI i), .int (nI j)] (PW G L f)) (vp_Sl (fun r => r = wd i j)) 0 0 (fun _ => False) := by
  refine Met.ofW (cc := b_Cb_wordOf) (maxL := 4) (ret := (some .long)) (by decide) rfl ?_
  intro p e s m args below meth c s₁ B hml hv
  obtain ⟨rfl, hP, hK⟩ := hv
  have hx := B.exec
  have hb := B.bytes
  have hr := B.returns
  have hA : ∀ w ∈ AW, w.before _ s = true := fun w h => atoms_spec (ws := (.code y_Cb_wordOf b_Cb_wordOf 4 (some .long) :: AW)) B.pre w (List.mem_cons_of_mem _ h)
  have hown : s.vm.findClass R_Cb = some m.cls := findClass_of_methodNamed B.named
  have hlocks := B.notSynchronized
  have hl := lv_entry ([.ref cb, .int (nI i), .int (nI j)]) (n := 4) (Nat.le_of_ble_eq_true rfl)
  rw [lg_entry_eq]
  generalize (lg_sl ([.ref cb, .int (nI i), .int (nI j)]) ++ List.replicate (4 - (lg_sl ([.ref cb, .int (nI i), .int (nI j)])).length) Slot.unset).toArray = ls at hl ⊢
  have hl : lv_has ls 4 [(0, .ref cb), (1, .int (nI i)), (2, .int (nI j))] := hl
  have hn := hB.1
  refine lv_aload_n hx hb d_Cb_wordOf_0 rfl (lv_at hl 0 rfl) ?_
  refine lv_iload_n hx hb d_Cb_wordOf_1 rfl (lv_at hl 1 rfl) ?_
  refine va_csq (va_Run.run (va_runV (As := [.int (nI i)]) (rest := []) ⟨hx, hb, hml, hown, hA⟩ (c_Cb_at l G L f hB.2.1 hB.2.2.1 (nI i)) ⟨callB_of 1 hA (gAW kw_18) rfl rfl rfl (hA _ kw_19) (hA _ kw_20) (by decide +kernel) ⟨Nat.le_of_ble_eq_true rfl, Nat.le_of_ble_eq_true rfl⟩, (hA _ kw_21), (hA _ kw_22)⟩ (pw_preV (ci := 1) hP hK hB.2.1 rfl) rfl rfl hl.1 rfl (lv_room (Nat.le_of_ble_eq_true rfl)) d_Cb_wordOf_2 ⟨Nat.zero_le _, Nat.zero_le _⟩)) (fun r_1 e_2 => ?_)
  subst e_2
  refine xv_R (a := ad i) (oAt_t (by decide) hn hi) ?_
  refine lv_astore_n (lv' := [(3, .ref (ad i)), (0, .ref cb), (1, .int (nI i)), (2, .int (nI j))]) hx hb d_Cb_wordOf_5 rfl hl (by decide) rfl (fun ls hl => ?_)
  refine lv_aload_n hx hb d_Cb_wordOf_6 rfl (lv_at hl 0 rfl) ?_
  refine lv_ifnonnull (tgt := 14) hx hb d_Cb_wordOf_7 (by decide) ?_
  refine lv_aload_n hx hb d_Cb_wordOf_14 rfl (lv_at hl 0 rfl) ?_
  refine lv_iload_n hx hb d_Cb_wordOf_15 rfl (lv_at hl 3 rfl) ?_
  refine vp_callSl (va_Run.run (va_runVN (As := [.int (nI j)]) (rest := []) ⟨hx, hb, hml, hown, hA⟩ (c_Co_word l G L f (hB.2.2.2.2 i hi).1 (hB.2.2.2.2 i hi).2 j hj) ⟨va_cnB 1 hA (gAW kw_10) rfl rfl rfl (hK.2.1 _ kz_4) (hA _ kw_11) (by decide +kernel) ⟨Nat.le_of_ble_eq_true rfl, Nat.le_of_ble_eq_true rfl⟩, (hA _ kw_12), (hA _ kw_13)⟩ (pw_preV (ci := 0) hP hK ((hB.2.2.2.2 i hi).1) rfl) rfl rfl hl.1 rfl (lv_room (Nat.le_of_ble_eq_true rfl)) d_Cb_wordOf_16 ⟨Nat.zero_le _, Nat.zero_le _⟩)) (fun r_3 e_4 => ?_)
  subst e_4
  exact W.lret (v := wd i j) hx hb hr (fun t9 h9t h9W => ⟨_, rfl, rfl, h9t⟩) (fun _ h => nomatch h) d_Cb_wordOf_19

set_option maxHeartbeats 4000000 in
set_option maxRecDepth 100000 in
/-- isMember -/
theorem c_Cb_isM (l : Launch) (G : GG) (L : List Nat) (f : Nat → va_E) {cb mA gA n : Nat} {ad wa kd : Nat → Nat} {ka kb kc : Nat → Int32} {wd : Nat → Nat → Int64} {mm : Nat → Bool} (hB : CoB G L f cb mA gA n ad wa kd ka kb kc wd mm) (u v : Nat) (hu : u < 8) (hv_ : v < 8) : Met l y_Cb_isMember (.code y_Cb_isMember b_Cb_isMember 4 (some .boolean) :: AW) (RM 1) (va_Pc [.ref cb, .int (nI u), .int (nI v)] (PW G L f)) (vp_Si (fun r => r = bI (mm (u * 8 + v)))) 0 0 (fun _ => False) := by
  refine Met.ofW (cc := b_Cb_isMember) (maxL := 4) (ret := (some .boolean)) (by decide) rfl ?_
  intro p e s m args below meth c s₁ B hml hv
  obtain ⟨rfl, hP, hK⟩ := hv
  have hx := B.exec
  have hb := B.bytes
  have hr := B.returns
  have hA : ∀ w ∈ AW, w.before _ s = true := fun w h => atoms_spec (ws := (.code y_Cb_isMember b_Cb_isMember 4 (some .boolean) :: AW)) B.pre w (List.mem_cons_of_mem _ h)
  have hown : s.vm.findClass R_Cb = some m.cls := findClass_of_methodNamed B.named
  have hlocks := B.notSynchronized
  have hl := lv_entry ([.ref cb, .int (nI u), .int (nI v)]) (n := 4) (Nat.le_of_ble_eq_true rfl)
  rw [lg_entry_eq]
  generalize (lg_sl ([.ref cb, .int (nI u), .int (nI v)]) ++ List.replicate (4 - (lg_sl ([.ref cb, .int (nI u), .int (nI v)])).length) Slot.unset).toArray = ls at hl ⊢
  have hl : lv_has ls 4 [(0, .ref cb), (1, .int (nI u)), (2, .int (nI v))] := hl
  have hn := hB.1
  refine lv_iload_n hx hb d_Cb_isMember_0 rfl (lv_at hl 1 rfl) ?_
  refine lv_bipush (v := nI 8) hx hb d_Cb_isMember_1 (by decide) ?_
  refine lv_imul hx hb d_Cb_isMember_3 ?_
  refine xv_I (y := nI (u * 8)) (pk_mul u 8) ?_
  refine lv_iload_n hx hb d_Cb_isMember_4 rfl (lv_at hl 2 rfl) ?_
  refine lv_iadd hx hb d_Cb_isMember_5 ?_
  refine xv_I (y := nI (u * 8 + v)) (nI_add _ _) ?_
  refine lv_istore_n (lv' := [(3, .int (nI (u * 8 + v))), (0, .ref cb), (1, .int (nI u)), (2, .int (nI v))]) hx hb d_Cb_isMember_6 rfl hl (by decide) rfl (fun ls hl => ?_)
  refine lv_iload_n hx hb d_Cb_isMember_7 rfl (lv_at hl 0 rfl) ?_
  refine lv_aload_n hx hb d_Cb_isMember_8 rfl (lv_at hl 1 rfl) ?_
  refine va_get (D := G.1) (ci := 1) (v := .ref gA) (C := R_Cb) (T := T_Cb) (N := 3) hx hb hA in_Cb hown hK.1 (pl_o hP hB.2.1) 0 rfl rfl 1 (by decide) (hA _ kw_23) (fun _ h9 => h9) rfl d_Cb_isMember_9 ?_
  refine va_alen (v := nI 64) hx hb hK.1 (pl_o hP hB.2.2.2.1) 0 1 rfl rfl rfl d_Cb_isMember_12 ?_
  refine vp_callSi (va_Run.run (va_runSN (As := [.int (nI (u * 8 + v)), .int (nI 64)]) (rest := []) ⟨hx, hb, hml, hown, hA⟩ (c_isBelow l G L f (nI (u * 8 + v)) (nI 64)) ⟨va_cnB 2 hA (gAW kw_4) rfl rfl rfl (hK.2.1 _ kz_1) (hA _ kw_5) (by decide +kernel) ⟨Nat.le_of_ble_eq_true rfl, Nat.le_of_ble_eq_true rfl⟩, (hA _ kw_6), trivial⟩ (pw_preS hP hK) rfl rfl hl.1 rfl (lv_room (Nat.le_of_ble_eq_true rfl)) d_Cb_isMember_13 ⟨Nat.zero_le _, Nat.zero_le _⟩)) (fun r_1 e_2 => ?_)
  subst e_2
  refine lv_if_eq (tgt := 32) hx hb d_Cb_isMember_16 (by decide) (fun c9 => absurd c9 (by rw [blw_nI (by decide) (by omega), decide_eq_true (show u * 8 + v < 64 by omega)]; decide)) (fun _ => ?_)
  refine lv_aload_n hx hb d_Cb_isMember_19 rfl (lv_at hl 1 rfl) ?_
  refine va_get (D := G.1) (ci := 1) (v := .ref gA) (C := R_Cb) (T := T_Cb) (N := 3) hx hb hA in_Cb hown hK.1 (pl_o hP hB.2.1) 0 rfl rfl 1 (by decide) (hA _ kw_23) (fun _ h9 => h9) rfl d_Cb_isMember_20 ?_
  refine lv_iload_n hx hb d_Cb_isMember_23 rfl (lv_at hl 0 rfl) ?_
  refine xl_zald hx hb hK.1 (pl_o hP hB.2.2.2.1) 0 1 rfl rfl (i := (u * 8 + v)) (by omega) (by decide) d_Cb_isMember_24 ?_
  refine xv_I (y := bI (mm (u * 8 + v))) rfl ?_
  rcases bcase (mm (u * 8 + v)) with hm_ | hm_
  · refine lv_if_eq (tgt := 32) hx hb d_Cb_isMember_25 (by decide) (fun _ => ?_) (fun c9 => absurd (by rw [hm_]; rfl) c9)
    refine lv_iconst (v := nI 0) hx hb d_Cb_isMember_32 (by decide) ?_
    exact W.zret (v := nI 0) (ty := .boolean) hx hb hr (bI_nar false) (fun t9 h9t h9W => ⟨_, rfl, by rw [hm_]; rfl, h9t⟩) (fun _ h => nomatch h) d_Cb_isMember_33
  · refine lv_if_eq (tgt := 32) hx hb d_Cb_isMember_25 (by decide) (fun c9 => absurd c9 (by rw [hm_]; decide)) (fun _ => ?_)
    refine lv_iconst (v := nI 1) hx hb d_Cb_isMember_28 (by decide) ?_
    refine lv_goto (tgt := 33) hx hb d_Cb_isMember_29 (by decide) ?_
    exact W.zret (v := nI 1) (ty := .boolean) hx hb hr (bI_nar true) (fun t9 h9t h9W => ⟨_, rfl, by rw [hm_]; rfl, h9t⟩) (fun _ h => nomatch h) d_Cb_isMember_33

set_option maxHeartbeats 4000000 in
set_option maxRecDepth 100000 in
/-- canBe -/
theorem c_Cb_can (l : Launch) (G : GG) (L : List Nat) (f : Nat → va_E) {cb mA gA n : Nat} {ad wa kd : Nat → Nat} {ka kb kc : Nat → Int32} {wd : Nat → Nat → Int64} {mm : Nat → Bool} (hB : CoB G L f cb mA gA n ad wa kd ka kb kc wd mm) (x0 x1 x2 x3 : Int32) : Met l y_Cb_canBe (.code y_Cb_canBe b_Cb_canBe 5 (some .boolean) :: AW) (RM 1) (va_Pc [.ref cb, .int x0, .int x1, .int x2, .int x3] (PW G L f)) (vp_Si (fun r => r = bI (cOK n x0 x1 x2 x3))) 0 0 (fun _ => False) := by
  refine Met.ofW (cc := b_Cb_canBe) (maxL := 5) (ret := (some .boolean)) (by decide) rfl ?_
  intro p e s m args below meth c s₁ B hml hv
  obtain ⟨rfl, hP, hK⟩ := hv
  have hx := B.exec
  have hb := B.bytes
  have hr := B.returns
  have hA : ∀ w ∈ AW, w.before _ s = true := fun w h => atoms_spec (ws := (.code y_Cb_canBe b_Cb_canBe 5 (some .boolean) :: AW)) B.pre w (List.mem_cons_of_mem _ h)
  have hown : s.vm.findClass R_Cb = some m.cls := findClass_of_methodNamed B.named
  have hlocks := B.notSynchronized
  have hl := lv_entry ([.ref cb, .int x0, .int x1, .int x2, .int x3]) (n := 5) (Nat.le_of_ble_eq_true rfl)
  rw [lg_entry_eq]
  generalize (lg_sl ([.ref cb, .int x0, .int x1, .int x2, .int x3]) ++ List.replicate (5 - (lg_sl ([.ref cb, .int x0, .int x1, .int x2, .int x3])).length) Slot.unset).toArray = ls at hl ⊢
  have hl : lv_has ls 5 [(0, .ref cb), (1, .int x0), (2, .int x1), (3, .int x2), (4, .int x3)] := hl
  have hn := hB.1
  rcases k11 x0 with rfl | rfl | rfl | rfl | rfl | rfl | rfl | rfl | rfl | rfl | rfl | hk
  · refine lv_iload_n hx hb d_Cb_canBe_0 rfl (lv_at hl 1 rfl) ?_
    refine lv_tableIn (x := nI 0) (off := 59) (tgt := 60) hx hb d_Cb_canBe_1 (by decide) (by decide) rfl (by decide) ?_
    refine lv_iload_n hx hb d_Cb_canBe_60 rfl (lv_at hl 2 rfl) ?_
    refine lv_bipush (v := nI 8) hx hb d_Cb_canBe_61 (by decide) ?_
    refine vp_callSi (va_Run.run (va_runSN (As := [.int x1, .int (nI 8)]) (rest := []) ⟨hx, hb, hml, hown, hA⟩ (c_isBelow l G L f (x1) (nI 8)) ⟨va_cnB 2 hA (gAW kw_4) rfl rfl rfl (hK.2.1 _ kz_1) (hA _ kw_5) (by decide +kernel) ⟨Nat.le_of_ble_eq_true rfl, Nat.le_of_ble_eq_true rfl⟩, (hA _ kw_6), trivial⟩ (pw_preS hP hK) rfl rfl hl.1 rfl (lv_room (Nat.le_of_ble_eq_true rfl)) d_Cb_canBe_63 ⟨Nat.zero_le _, Nat.zero_le _⟩)) (fun r_1 e_2 => ?_)
    subst e_2
    exact W.zret (v := bI (blw (x1) (nI 8))) (ty := .boolean) hx hb hr (bI_nar _) (fun t9 h9t h9W => ⟨_, rfl, by unfold cOK; rw [if_pos rfl], h9t⟩) (fun _ h => nomatch h) d_Cb_canBe_66
  · refine lv_iload_n hx hb d_Cb_canBe_0 rfl (lv_at hl 1 rfl) ?_
    refine lv_tableIn (x := nI 1) (off := 66) (tgt := 67) hx hb d_Cb_canBe_1 (by decide) (by decide) rfl (by decide) ?_
    refine lv_iload_n hx hb d_Cb_canBe_67 rfl (lv_at hl 2 rfl) ?_
    refine lv_bipush (v := nI 8) hx hb d_Cb_canBe_68 (by decide) ?_
    refine vp_callSi (va_Run.run (va_runSN (As := [.int x1, .int (nI 8)]) (rest := []) ⟨hx, hb, hml, hown, hA⟩ (c_isBelow l G L f (x1) (nI 8)) ⟨va_cnB 2 hA (gAW kw_4) rfl rfl rfl (hK.2.1 _ kz_1) (hA _ kw_5) (by decide +kernel) ⟨Nat.le_of_ble_eq_true rfl, Nat.le_of_ble_eq_true rfl⟩, (hA _ kw_6), trivial⟩ (pw_preS hP hK) rfl rfl hl.1 rfl (lv_room (Nat.le_of_ble_eq_true rfl)) d_Cb_canBe_70 ⟨Nat.zero_le _, Nat.zero_le _⟩)) (fun r_3 e_4 => ?_)
    subst e_4
    exact W.zret (v := bI (blw (x1) (nI 8))) (ty := .boolean) hx hb hr (bI_nar _) (fun t9 h9t h9W => ⟨_, rfl, by unfold cOK; rw [if_neg (by decide)]; rw [if_pos rfl], h9t⟩) (fun _ h => nomatch h) d_Cb_canBe_73
  · refine lv_iload_n hx hb d_Cb_canBe_0 rfl (lv_at hl 1 rfl) ?_
    refine lv_tableIn (x := nI 2) (off := 73) (tgt := 74) hx hb d_Cb_canBe_1 (by decide) (by decide) rfl (by decide) ?_
    refine lv_iload_n hx hb d_Cb_canBe_74 rfl (lv_at hl 2 rfl) ?_
    refine lv_iconst (v := nI 4) hx hb d_Cb_canBe_75 (by decide) ?_
    refine vp_callSi (va_Run.run (va_runSN (As := [.int x1, .int (nI 4)]) (rest := []) ⟨hx, hb, hml, hown, hA⟩ (c_isBelow l G L f (x1) (nI 4)) ⟨va_cnB 2 hA (gAW kw_4) rfl rfl rfl (hK.2.1 _ kz_1) (hA _ kw_5) (by decide +kernel) ⟨Nat.le_of_ble_eq_true rfl, Nat.le_of_ble_eq_true rfl⟩, (hA _ kw_6), trivial⟩ (pw_preS hP hK) rfl rfl hl.1 rfl (lv_room (Nat.le_of_ble_eq_true rfl)) d_Cb_canBe_76 ⟨Nat.zero_le _, Nat.zero_le _⟩)) (fun r_5 e_6 => ?_)
    subst e_6
    exact W.zret (v := bI (blw (x1) (nI 4))) (ty := .boolean) hx hb hr (bI_nar _) (fun t9 h9t h9W => ⟨_, rfl, by unfold cOK; rw [if_neg (by decide)]; rw [if_neg (by decide)]; rw [if_pos rfl], h9t⟩) (fun _ h => nomatch h) d_Cb_canBe_79
  · refine lv_iload_n hx hb d_Cb_canBe_0 rfl (lv_at hl 1 rfl) ?_
    refine lv_tableIn (x := nI 3) (off := 79) (tgt := 80) hx hb d_Cb_canBe_1 (by decide) (by decide) rfl (by decide) ?_
    refine lv_iload_n hx hb d_Cb_canBe_80 rfl (lv_at hl 2 rfl) ?_
    refine lv_bipush (v := nI 6) hx hb d_Cb_canBe_81 (by decide) ?_
    refine vp_callSi (va_Run.run (va_runSN (As := [.int x1, .int (nI 6)]) (rest := []) ⟨hx, hb, hml, hown, hA⟩ (c_isBelow l G L f (x1) (nI 6)) ⟨va_cnB 2 hA (gAW kw_4) rfl rfl rfl (hK.2.1 _ kz_1) (hA _ kw_5) (by decide +kernel) ⟨Nat.le_of_ble_eq_true rfl, Nat.le_of_ble_eq_true rfl⟩, (hA _ kw_6), trivial⟩ (pw_preS hP hK) rfl rfl hl.1 rfl (lv_room (Nat.le_of_ble_eq_true rfl)) d_Cb_canBe_83 ⟨Nat.zero_le _, Nat.zero_le _⟩)) (fun r_7 e_8 => ?_)
    subst e_8
    exact W.zret (v := bI (blw (x1) (nI 6))) (ty := .boolean) hx hb hr (bI_nar _) (fun t9 h9t h9W => ⟨_, rfl, by unfold cOK; rw [if_neg (by decide)]; rw [if_neg (by decide)]; rw [if_neg (by decide)]; rw [if_pos rfl], h9t⟩) (fun _ h => nomatch h) d_Cb_canBe_86
  · refine lv_iload_n hx hb d_Cb_canBe_0 rfl (lv_at hl 1 rfl) ?_
    refine lv_tableIn (x := nI 4) (off := 86) (tgt := 87) hx hb d_Cb_canBe_1 (by decide) (by decide) rfl (by decide) ?_
    refine lv_iload_n hx hb d_Cb_canBe_87 rfl (lv_at hl 2 rfl) ?_
    refine lv_iconst (v := nI 4) hx hb d_Cb_canBe_88 (by decide) ?_
    refine vp_callSi (va_Run.run (va_runSN (As := [.int x1, .int (nI 4)]) (rest := []) ⟨hx, hb, hml, hown, hA⟩ (c_isBelow l G L f (x1) (nI 4)) ⟨va_cnB 2 hA (gAW kw_4) rfl rfl rfl (hK.2.1 _ kz_1) (hA _ kw_5) (by decide +kernel) ⟨Nat.le_of_ble_eq_true rfl, Nat.le_of_ble_eq_true rfl⟩, (hA _ kw_6), trivial⟩ (pw_preS hP hK) rfl rfl hl.1 rfl (lv_room (Nat.le_of_ble_eq_true rfl)) d_Cb_canBe_89 ⟨Nat.zero_le _, Nat.zero_le _⟩)) (fun r_9 e_10 => ?_)
    subst e_10
    exact W.zret (v := bI (blw (x1) (nI 4))) (ty := .boolean) hx hb hr (bI_nar _) (fun t9 h9t h9W => ⟨_, rfl, by unfold cOK; rw [if_neg (by decide)]; rw [if_neg (by decide)]; rw [if_neg (by decide)]; rw [if_neg (by decide)]; rw [if_pos rfl], h9t⟩) (fun _ h => nomatch h) d_Cb_canBe_92
  · refine lv_iload_n hx hb d_Cb_canBe_0 rfl (lv_at hl 1 rfl) ?_
    refine lv_tableIn (x := nI 5) (off := 92) (tgt := 93) hx hb d_Cb_canBe_1 (by decide) (by decide) rfl (by decide) ?_
    refine lv_iload_n hx hb d_Cb_canBe_93 rfl (lv_at hl 2 rfl) ?_
    refine lv_bipush (v := nI 8) hx hb d_Cb_canBe_94 (by decide) ?_
    refine vp_callSi (va_Run.run (va_runSN (As := [.int x1, .int (nI 8)]) (rest := []) ⟨hx, hb, hml, hown, hA⟩ (c_isBelow l G L f (x1) (nI 8)) ⟨va_cnB 2 hA (gAW kw_4) rfl rfl rfl (hK.2.1 _ kz_1) (hA _ kw_5) (by decide +kernel) ⟨Nat.le_of_ble_eq_true rfl, Nat.le_of_ble_eq_true rfl⟩, (hA _ kw_6), trivial⟩ (pw_preS hP hK) rfl rfl hl.1 rfl (lv_room (Nat.le_of_ble_eq_true rfl)) d_Cb_canBe_96 ⟨Nat.zero_le _, Nat.zero_le _⟩)) (fun r_11 e_12 => ?_)
    subst e_12
    rcases bcase (blw (x1) (nI 8)) with hb_0 | hb_0
    · refine lv_if_eq (tgt := 120) hx hb d_Cb_canBe_99 (by decide) (fun _ => ?_) (fun c9 => absurd (by rw [hb_0]; rfl) c9)
      refine lv_iconst (v := nI 0) hx hb d_Cb_canBe_120 (by decide) ?_
      exact W.zret (v := nI 0) (ty := .boolean) hx hb hr (bI_nar false) (fun t9 h9t h9W => ⟨_, rfl, by unfold cOK; rw [if_neg (by decide)]; rw [if_neg (by decide)]; rw [if_neg (by decide)]; rw [if_neg (by decide)]; rw [if_neg (by decide)]; rw [if_pos rfl]; rw [hb_0]; rfl, h9t⟩) (fun _ h => nomatch h) d_Cb_canBe_121
    · refine lv_if_eq (tgt := 120) hx hb d_Cb_canBe_99 (by decide) (fun c9 => absurd c9 (by rw [hb_0]; decide)) (fun _ => ?_)
      refine lv_iload_n hx hb d_Cb_canBe_102 rfl (lv_at hl 3 rfl) ?_
      refine lv_bipush (v := nI 8) hx hb d_Cb_canBe_103 (by decide) ?_
      refine vp_callSi (va_Run.run (va_runSN (As := [.int x2, .int (nI 8)]) (rest := []) ⟨hx, hb, hml, hown, hA⟩ (c_isBelow l G L f (x2) (nI 8)) ⟨va_cnB 2 hA (gAW kw_4) rfl rfl rfl (hK.2.1 _ kz_1) (hA _ kw_5) (by decide +kernel) ⟨Nat.le_of_ble_eq_true rfl, Nat.le_of_ble_eq_true rfl⟩, (hA _ kw_6), trivial⟩ (pw_preS hP hK) rfl rfl hl.1 rfl (lv_room (Nat.le_of_ble_eq_true rfl)) d_Cb_canBe_105 ⟨Nat.zero_le _, Nat.zero_le _⟩)) (fun r_13 e_14 => ?_)
      subst e_14
      rcases bcase (blw (x2) (nI 8)) with hb_1 | hb_1
      · refine lv_if_eq (tgt := 120) hx hb d_Cb_canBe_108 (by decide) (fun _ => ?_) (fun c9 => absurd (by rw [hb_1]; rfl) c9)
        refine lv_iconst (v := nI 0) hx hb d_Cb_canBe_120 (by decide) ?_
        exact W.zret (v := nI 0) (ty := .boolean) hx hb hr (bI_nar false) (fun t9 h9t h9W => ⟨_, rfl, by unfold cOK; rw [if_neg (by decide)]; rw [if_neg (by decide)]; rw [if_neg (by decide)]; rw [if_neg (by decide)]; rw [if_neg (by decide)]; rw [if_pos rfl]; rw [hb_0, hb_1]; rfl, h9t⟩) (fun _ h => nomatch h) d_Cb_canBe_121
      · refine lv_if_eq (tgt := 120) hx hb d_Cb_canBe_108 (by decide) (fun c9 => absurd c9 (by rw [hb_1]; decide)) (fun _ => ?_)
        refine lv_iload_n hx hb d_Cb_canBe_111 rfl (lv_at hl 2 rfl) ?_
        refine lv_iload_n hx hb d_Cb_canBe_112 rfl (lv_at hl 3 rfl) ?_
        by_cases hb_2 : x1 ≤ x2
        · refine lv_icmp_gt (tgt := 120) hx hb d_Cb_canBe_113 (by decide) (fun c9 => absurd c9 (i32_nlt hb_2)) (fun _ => ?_)
          refine lv_iconst (v := nI 1) hx hb d_Cb_canBe_116 (by decide) ?_
          refine lv_goto (tgt := 121) hx hb d_Cb_canBe_117 (by decide) ?_
          exact W.zret (v := nI 1) (ty := .boolean) hx hb hr (bI_nar true) (fun t9 h9t h9W => ⟨_, rfl, by unfold cOK; rw [if_neg (by decide)]; rw [if_neg (by decide)]; rw [if_neg (by decide)]; rw [if_neg (by decide)]; rw [if_neg (by decide)]; rw [if_pos rfl]; rw [hb_0, hb_1, decide_eq_true hb_2]; rfl, h9t⟩) (fun _ h => nomatch h) d_Cb_canBe_121
        · refine lv_icmp_gt (tgt := 120) hx hb d_Cb_canBe_113 (by decide) (fun _ => ?_) (fun c9 => absurd (i32_lt hb_2) c9)
          refine lv_iconst (v := nI 0) hx hb d_Cb_canBe_120 (by decide) ?_
          exact W.zret (v := nI 0) (ty := .boolean) hx hb hr (bI_nar false) (fun t9 h9t h9W => ⟨_, rfl, by unfold cOK; rw [if_neg (by decide)]; rw [if_neg (by decide)]; rw [if_neg (by decide)]; rw [if_neg (by decide)]; rw [if_neg (by decide)]; rw [if_pos rfl]; rw [hb_0, hb_1, decide_eq_false hb_2]; rfl, h9t⟩) (fun _ h => nomatch h) d_Cb_canBe_121
  · refine lv_iload_n hx hb d_Cb_canBe_0 rfl (lv_at hl 1 rfl) ?_
    refine lv_tableIn (x := nI 6) (off := 121) (tgt := 122) hx hb d_Cb_canBe_1 (by decide) (by decide) rfl (by decide) ?_
    refine lv_iload_n hx hb d_Cb_canBe_122 rfl (lv_at hl 2 rfl) ?_
    refine lv_aload_n hx hb d_Cb_canBe_123 rfl (lv_at hl 0 rfl) ?_
    refine va_get (D := G.1) (ci := 1) (v := .int (nI n)) (C := R_Cb) (T := T_Cb) (N := 3) hx hb hA in_Cb hown hK.1 (pl_o hP hB.2.1) 0 rfl rfl 2 (by decide) (hA _ kw_24) (fun _ h9 => h9) rfl d_Cb_canBe_124 ?_
    refine vp_callSi (va_Run.run (va_runSN (As := [.int x1, .int (nI n)]) (rest := []) ⟨hx, hb, hml, hown, hA⟩ (c_isBelow l G L f (x1) (nI n)) ⟨va_cnB 2 hA (gAW kw_4) rfl rfl rfl (hK.2.1 _ kz_1) (hA _ kw_5) (by decide +kernel) ⟨Nat.le_of_ble_eq_true rfl, Nat.le_of_ble_eq_true rfl⟩, (hA _ kw_6), trivial⟩ (pw_preS hP hK) rfl rfl hl.1 rfl (lv_room (Nat.le_of_ble_eq_true rfl)) d_Cb_canBe_127 ⟨Nat.zero_le _, Nat.zero_le _⟩)) (fun r_15 e_16 => ?_)
    subst e_16
    exact W.zret (v := bI (blw (x1) (nI n))) (ty := .boolean) hx hb hr (bI_nar _) (fun t9 h9t h9W => ⟨_, rfl, by unfold cOK; rw [if_neg (by decide)]; rw [if_neg (by decide)]; rw [if_neg (by decide)]; rw [if_neg (by decide)]; rw [if_neg (by decide)]; rw [if_neg (by decide)]; rw [if_pos rfl], h9t⟩) (fun _ h => nomatch h) d_Cb_canBe_130
  · refine lv_iload_n hx hb d_Cb_canBe_0 rfl (lv_at hl 1 rfl) ?_
    refine lv_tableIn (x := nI 7) (off := 130) (tgt := 131) hx hb d_Cb_canBe_1 (by decide) (by decide) rfl (by decide) ?_
    refine lv_iload_n hx hb d_Cb_canBe_131 rfl (lv_at hl 2 rfl) ?_
    refine lv_aload_n hx hb d_Cb_canBe_132 rfl (lv_at hl 0 rfl) ?_
    refine va_get (D := G.1) (ci := 1) (v := .int (nI n)) (C := R_Cb) (T := T_Cb) (N := 3) hx hb hA in_Cb hown hK.1 (pl_o hP hB.2.1) 0 rfl rfl 2 (by decide) (hA _ kw_24) (fun _ h9 => h9) rfl d_Cb_canBe_133 ?_
    refine vp_callSi (va_Run.run (va_runSN (As := [.int x1, .int (nI n)]) (rest := []) ⟨hx, hb, hml, hown, hA⟩ (c_isBelow l G L f (x1) (nI n)) ⟨va_cnB 2 hA (gAW kw_4) rfl rfl rfl (hK.2.1 _ kz_1) (hA _ kw_5) (by decide +kernel) ⟨Nat.le_of_ble_eq_true rfl, Nat.le_of_ble_eq_true rfl⟩, (hA _ kw_6), trivial⟩ (pw_preS hP hK) rfl rfl hl.1 rfl (lv_room (Nat.le_of_ble_eq_true rfl)) d_Cb_canBe_136 ⟨Nat.zero_le _, Nat.zero_le _⟩)) (fun r_17 e_18 => ?_)
    subst e_18
    rcases bcase (blw (x1) (nI n)) with hb_0 | hb_0
    · refine lv_if_eq (tgt := 157) hx hb d_Cb_canBe_139 (by decide) (fun _ => ?_) (fun c9 => absurd (by rw [hb_0]; rfl) c9)
      refine lv_iconst (v := nI 0) hx hb d_Cb_canBe_157 (by decide) ?_
      exact W.zret (v := nI 0) (ty := .boolean) hx hb hr (bI_nar false) (fun t9 h9t h9W => ⟨_, rfl, by unfold cOK; rw [if_neg (by decide)]; rw [if_neg (by decide)]; rw [if_neg (by decide)]; rw [if_neg (by decide)]; rw [if_neg (by decide)]; rw [if_neg (by decide)]; rw [if_neg (by decide)]; rw [if_pos rfl]; rw [hb_0]; rfl, h9t⟩) (fun _ h => nomatch h) d_Cb_canBe_158
    · refine lv_if_eq (tgt := 157) hx hb d_Cb_canBe_139 (by decide) (fun c9 => absurd c9 (by rw [hb_0]; decide)) (fun _ => ?_)
      refine lv_iload_n hx hb d_Cb_canBe_142 rfl (lv_at hl 3 rfl) ?_
      refine lv_aload_n hx hb d_Cb_canBe_143 rfl (lv_at hl 0 rfl) ?_
      refine va_get (D := G.1) (ci := 1) (v := .int (nI n)) (C := R_Cb) (T := T_Cb) (N := 3) hx hb hA in_Cb hown hK.1 (pl_o hP hB.2.1) 0 rfl rfl 2 (by decide) (hA _ kw_24) (fun _ h9 => h9) rfl d_Cb_canBe_144 ?_
      refine vp_callSi (va_Run.run (va_runSN (As := [.int x2, .int (nI n)]) (rest := []) ⟨hx, hb, hml, hown, hA⟩ (c_isBelow l G L f (x2) (nI n)) ⟨va_cnB 2 hA (gAW kw_4) rfl rfl rfl (hK.2.1 _ kz_1) (hA _ kw_5) (by decide +kernel) ⟨Nat.le_of_ble_eq_true rfl, Nat.le_of_ble_eq_true rfl⟩, (hA _ kw_6), trivial⟩ (pw_preS hP hK) rfl rfl hl.1 rfl (lv_room (Nat.le_of_ble_eq_true rfl)) d_Cb_canBe_147 ⟨Nat.zero_le _, Nat.zero_le _⟩)) (fun r_19 e_20 => ?_)
      subst e_20
      rcases bcase (blw (x2) (nI n)) with hb_1 | hb_1
      · refine lv_if_eq (tgt := 157) hx hb d_Cb_canBe_150 (by decide) (fun _ => ?_) (fun c9 => absurd (by rw [hb_1]; rfl) c9)
        refine lv_iconst (v := nI 0) hx hb d_Cb_canBe_157 (by decide) ?_
        exact W.zret (v := nI 0) (ty := .boolean) hx hb hr (bI_nar false) (fun t9 h9t h9W => ⟨_, rfl, by unfold cOK; rw [if_neg (by decide)]; rw [if_neg (by decide)]; rw [if_neg (by decide)]; rw [if_neg (by decide)]; rw [if_neg (by decide)]; rw [if_neg (by decide)]; rw [if_neg (by decide)]; rw [if_pos rfl]; rw [hb_0, hb_1]; rfl, h9t⟩) (fun _ h => nomatch h) d_Cb_canBe_158
      · refine lv_if_eq (tgt := 157) hx hb d_Cb_canBe_150 (by decide) (fun c9 => absurd c9 (by rw [hb_1]; decide)) (fun _ => ?_)
        refine lv_iconst (v := nI 1) hx hb d_Cb_canBe_153 (by decide) ?_
        refine lv_goto (tgt := 158) hx hb d_Cb_canBe_154 (by decide) ?_
        exact W.zret (v := nI 1) (ty := .boolean) hx hb hr (bI_nar true) (fun t9 h9t h9W => ⟨_, rfl, by unfold cOK; rw [if_neg (by decide)]; rw [if_neg (by decide)]; rw [if_neg (by decide)]; rw [if_neg (by decide)]; rw [if_neg (by decide)]; rw [if_neg (by decide)]; rw [if_neg (by decide)]; rw [if_pos rfl]; rw [hb_0, hb_1]; rfl, h9t⟩) (fun _ h => nomatch h) d_Cb_canBe_158
  · refine lv_iload_n hx hb d_Cb_canBe_0 rfl (lv_at hl 1 rfl) ?_
    refine lv_tableIn (x := nI 8) (off := 130) (tgt := 131) hx hb d_Cb_canBe_1 (by decide) (by decide) rfl (by decide) ?_
    refine lv_iload_n hx hb d_Cb_canBe_131 rfl (lv_at hl 2 rfl) ?_
    refine lv_aload_n hx hb d_Cb_canBe_132 rfl (lv_at hl 0 rfl) ?_
    refine va_get (D := G.1) (ci := 1) (v := .int (nI n)) (C := R_Cb) (T := T_Cb) (N := 3) hx hb hA in_Cb hown hK.1 (pl_o hP hB.2.1) 0 rfl rfl 2 (by decide) (hA _ kw_24) (fun _ h9 => h9) rfl d_Cb_canBe_133 ?_
    refine vp_callSi (va_Run.run (va_runSN (As := [.int x1, .int (nI n)]) (rest := []) ⟨hx, hb, hml, hown, hA⟩ (c_isBelow l G L f (x1) (nI n)) ⟨va_cnB 2 hA (gAW kw_4) rfl rfl rfl (hK.2.1 _ kz_1) (hA _ kw_5) (by decide +kernel) ⟨Nat.le_of_ble_eq_true rfl, Nat.le_of_ble_eq_true rfl⟩, (hA _ kw_6), trivial⟩ (pw_preS hP hK) rfl rfl hl.1 rfl (lv_room (Nat.le_of_ble_eq_true rfl)) d_Cb_canBe_136 ⟨Nat.zero_le _, Nat.zero_le _⟩)) (fun r_21 e_22 => ?_)
    subst e_22
    rcases bcase (blw (x1) (nI n)) with hb_0 | hb_0
    · refine lv_if_eq (tgt := 157) hx hb d_Cb_canBe_139 (by decide) (fun _ => ?_) (fun c9 => absurd (by rw [hb_0]; rfl) c9)
      refine lv_iconst (v := nI 0) hx hb d_Cb_canBe_157 (by decide) ?_
      exact W.zret (v := nI 0) (ty := .boolean) hx hb hr (bI_nar false) (fun t9 h9t h9W => ⟨_, rfl, by unfold cOK; rw [if_neg (by decide)]; rw [if_neg (by decide)]; rw [if_neg (by decide)]; rw [if_neg (by decide)]; rw [if_neg (by decide)]; rw [if_neg (by decide)]; rw [if_neg (by decide)]; rw [if_neg (by decide)]; rw [if_pos rfl]; rw [hb_0]; rfl, h9t⟩) (fun _ h => nomatch h) d_Cb_canBe_158
    · refine lv_if_eq (tgt := 157) hx hb d_Cb_canBe_139 (by decide) (fun c9 => absurd c9 (by rw [hb_0]; decide)) (fun _ => ?_)
      refine lv_iload_n hx hb d_Cb_canBe_142 rfl (lv_at hl 3 rfl) ?_
      refine lv_aload_n hx hb d_Cb_canBe_143 rfl (lv_at hl 0 rfl) ?_
      refine va_get (D := G.1) (ci := 1) (v := .int (nI n)) (C := R_Cb) (T := T_Cb) (N := 3) hx hb hA in_Cb hown hK.1 (pl_o hP hB.2.1) 0 rfl rfl 2 (by decide) (hA _ kw_24) (fun _ h9 => h9) rfl d_Cb_canBe_144 ?_
      refine vp_callSi (va_Run.run (va_runSN (As := [.int x2, .int (nI n)]) (rest := []) ⟨hx, hb, hml, hown, hA⟩ (c_isBelow l G L f (x2) (nI n)) ⟨va_cnB 2 hA (gAW kw_4) rfl rfl rfl (hK.2.1 _ kz_1) (hA _ kw_5) (by decide +kernel) ⟨Nat.le_of_ble_eq_true rfl, Nat.le_of_ble_eq_true rfl⟩, (hA _ kw_6), trivial⟩ (pw_preS hP hK) rfl rfl hl.1 rfl (lv_room (Nat.le_of_ble_eq_true rfl)) d_Cb_canBe_147 ⟨Nat.zero_le _, Nat.zero_le _⟩)) (fun r_23 e_24 => ?_)
      subst e_24
      rcases bcase (blw (x2) (nI n)) with hb_1 | hb_1
      · refine lv_if_eq (tgt := 157) hx hb d_Cb_canBe_150 (by decide) (fun _ => ?_) (fun c9 => absurd (by rw [hb_1]; rfl) c9)
        refine lv_iconst (v := nI 0) hx hb d_Cb_canBe_157 (by decide) ?_
        exact W.zret (v := nI 0) (ty := .boolean) hx hb hr (bI_nar false) (fun t9 h9t h9W => ⟨_, rfl, by unfold cOK; rw [if_neg (by decide)]; rw [if_neg (by decide)]; rw [if_neg (by decide)]; rw [if_neg (by decide)]; rw [if_neg (by decide)]; rw [if_neg (by decide)]; rw [if_neg (by decide)]; rw [if_neg (by decide)]; rw [if_pos rfl]; rw [hb_0, hb_1]; rfl, h9t⟩) (fun _ h => nomatch h) d_Cb_canBe_158
      · refine lv_if_eq (tgt := 157) hx hb d_Cb_canBe_150 (by decide) (fun c9 => absurd c9 (by rw [hb_1]; decide)) (fun _ => ?_)
        refine lv_iconst (v := nI 1) hx hb d_Cb_canBe_153 (by decide) ?_
        refine lv_goto (tgt := 158) hx hb d_Cb_canBe_154 (by decide) ?_
        exact W.zret (v := nI 1) (ty := .boolean) hx hb hr (bI_nar true) (fun t9 h9t h9W => ⟨_, rfl, by unfold cOK; rw [if_neg (by decide)]; rw [if_neg (by decide)]; rw [if_neg (by decide)]; rw [if_neg (by decide)]; rw [if_neg (by decide)]; rw [if_neg (by decide)]; rw [if_neg (by decide)]; rw [if_neg (by decide)]; rw [if_pos rfl]; rw [hb_0, hb_1]; rfl, h9t⟩) (fun _ h => nomatch h) d_Cb_canBe_158
  · refine lv_iload_n hx hb d_Cb_canBe_0 rfl (lv_at hl 1 rfl) ?_
    refine lv_tableIn (x := nI 9) (off := 158) (tgt := 159) hx hb d_Cb_canBe_1 (by decide) (by decide) rfl (by decide) ?_
    refine lv_iconst (v := nI 1) hx hb d_Cb_canBe_159 (by decide) ?_
    exact W.zret (v := nI 1) (ty := .boolean) hx hb hr (bI_nar true) (fun t9 h9t h9W => ⟨_, rfl, by unfold cOK; rw [if_neg (by decide)]; rw [if_neg (by decide)]; rw [if_neg (by decide)]; rw [if_neg (by decide)]; rw [if_neg (by decide)]; rw [if_neg (by decide)]; rw [if_neg (by decide)]; rw [if_neg (by decide)]; rw [if_neg (by decide)]; rw [if_pos rfl]; rfl, h9t⟩) (fun _ h => nomatch h) d_Cb_canBe_160
  · refine lv_iload_n hx hb d_Cb_canBe_0 rfl (lv_at hl 1 rfl) ?_
    refine lv_tableIn (x := nI 10) (off := 160) (tgt := 161) hx hb d_Cb_canBe_1 (by decide) (by decide) rfl (by decide) ?_
    refine lv_iload_n hx hb d_Cb_canBe_161 rfl (lv_at hl 2 rfl) ?_
    refine lv_aload_n hx hb d_Cb_canBe_162 rfl (lv_at hl 0 rfl) ?_
    refine va_get (D := G.1) (ci := 1) (v := .int (nI n)) (C := R_Cb) (T := T_Cb) (N := 3) hx hb hA in_Cb hown hK.1 (pl_o hP hB.2.1) 0 rfl rfl 2 (by decide) (hA _ kw_24) (fun _ h9 => h9) rfl d_Cb_canBe_163 ?_
    refine vp_callSi (va_Run.run (va_runSN (As := [.int x1, .int (nI n)]) (rest := []) ⟨hx, hb, hml, hown, hA⟩ (c_isBelow l G L f (x1) (nI n)) ⟨va_cnB 2 hA (gAW kw_4) rfl rfl rfl (hK.2.1 _ kz_1) (hA _ kw_5) (by decide +kernel) ⟨Nat.le_of_ble_eq_true rfl, Nat.le_of_ble_eq_true rfl⟩, (hA _ kw_6), trivial⟩ (pw_preS hP hK) rfl rfl hl.1 rfl (lv_room (Nat.le_of_ble_eq_true rfl)) d_Cb_canBe_166 ⟨Nat.zero_le _, Nat.zero_le _⟩)) (fun r_25 e_26 => ?_)
    subst e_26
    rcases bcase (blw (x1) (nI n)) with hb_0 | hb_0
    · refine lv_if_eq (tgt := 199) hx hb d_Cb_canBe_169 (by decide) (fun _ => ?_) (fun c9 => absurd (by rw [hb_0]; rfl) c9)
      refine lv_iconst (v := nI 0) hx hb d_Cb_canBe_199 (by decide) ?_
      exact W.zret (v := nI 0) (ty := .boolean) hx hb hr (bI_nar false) (fun t9 h9t h9W => ⟨_, rfl, by unfold cOK; rw [if_neg (by decide)]; rw [if_neg (by decide)]; rw [if_neg (by decide)]; rw [if_neg (by decide)]; rw [if_neg (by decide)]; rw [if_neg (by decide)]; rw [if_neg (by decide)]; rw [if_neg (by decide)]; rw [if_neg (by decide)]; rw [if_neg (by decide)]; rw [if_pos rfl]; rw [hb_0]; rfl, h9t⟩) (fun _ h => nomatch h) d_Cb_canBe_200
    · refine lv_if_eq (tgt := 199) hx hb d_Cb_canBe_169 (by decide) (fun c9 => absurd c9 (by rw [hb_0]; decide)) (fun _ => ?_)
      refine lv_iload_n hx hb d_Cb_canBe_172 rfl (lv_at hl 3 rfl) ?_
      refine lv_aload_n hx hb d_Cb_canBe_173 rfl (lv_at hl 0 rfl) ?_
      refine va_get (D := G.1) (ci := 1) (v := .int (nI n)) (C := R_Cb) (T := T_Cb) (N := 3) hx hb hA in_Cb hown hK.1 (pl_o hP hB.2.1) 0 rfl rfl 2 (by decide) (hA _ kw_24) (fun _ h9 => h9) rfl d_Cb_canBe_174 ?_
      refine vp_callSi (va_Run.run (va_runSN (As := [.int x2, .int (nI n)]) (rest := []) ⟨hx, hb, hml, hown, hA⟩ (c_isBelow l G L f (x2) (nI n)) ⟨va_cnB 2 hA (gAW kw_4) rfl rfl rfl (hK.2.1 _ kz_1) (hA _ kw_5) (by decide +kernel) ⟨Nat.le_of_ble_eq_true rfl, Nat.le_of_ble_eq_true rfl⟩, (hA _ kw_6), trivial⟩ (pw_preS hP hK) rfl rfl hl.1 rfl (lv_room (Nat.le_of_ble_eq_true rfl)) d_Cb_canBe_177 ⟨Nat.zero_le _, Nat.zero_le _⟩)) (fun r_27 e_28 => ?_)
      subst e_28
      rcases bcase (blw (x2) (nI n)) with hb_1 | hb_1
      · refine lv_if_eq (tgt := 199) hx hb d_Cb_canBe_180 (by decide) (fun _ => ?_) (fun c9 => absurd (by rw [hb_1]; rfl) c9)
        refine lv_iconst (v := nI 0) hx hb d_Cb_canBe_199 (by decide) ?_
        exact W.zret (v := nI 0) (ty := .boolean) hx hb hr (bI_nar false) (fun t9 h9t h9W => ⟨_, rfl, by unfold cOK; rw [if_neg (by decide)]; rw [if_neg (by decide)]; rw [if_neg (by decide)]; rw [if_neg (by decide)]; rw [if_neg (by decide)]; rw [if_neg (by decide)]; rw [if_neg (by decide)]; rw [if_neg (by decide)]; rw [if_neg (by decide)]; rw [if_neg (by decide)]; rw [if_pos rfl]; rw [hb_0, hb_1]; rfl, h9t⟩) (fun _ h => nomatch h) d_Cb_canBe_200
      · refine lv_if_eq (tgt := 199) hx hb d_Cb_canBe_180 (by decide) (fun c9 => absurd c9 (by rw [hb_1]; decide)) (fun _ => ?_)
        refine lv_iload hx hb d_Cb_canBe_183 (lv_at hl 4 rfl) ?_
        refine lv_aload_n hx hb d_Cb_canBe_185 rfl (lv_at hl 0 rfl) ?_
        refine va_get (D := G.1) (ci := 1) (v := .int (nI n)) (C := R_Cb) (T := T_Cb) (N := 3) hx hb hA in_Cb hown hK.1 (pl_o hP hB.2.1) 0 rfl rfl 2 (by decide) (hA _ kw_24) (fun _ h9 => h9) rfl d_Cb_canBe_186 ?_
        refine vp_callSi (va_Run.run (va_runSN (As := [.int x3, .int (nI n)]) (rest := []) ⟨hx, hb, hml, hown, hA⟩ (c_isBelow l G L f (x3) (nI n)) ⟨va_cnB 2 hA (gAW kw_4) rfl rfl rfl (hK.2.1 _ kz_1) (hA _ kw_5) (by decide +kernel) ⟨Nat.le_of_ble_eq_true rfl, Nat.le_of_ble_eq_true rfl⟩, (hA _ kw_6), trivial⟩ (pw_preS hP hK) rfl rfl hl.1 rfl (lv_room (Nat.le_of_ble_eq_true rfl)) d_Cb_canBe_189 ⟨Nat.zero_le _, Nat.zero_le _⟩)) (fun r_29 e_30 => ?_)
        subst e_30
        rcases bcase (blw (x3) (nI n)) with hb_2 | hb_2
        · refine lv_if_eq (tgt := 199) hx hb d_Cb_canBe_192 (by decide) (fun _ => ?_) (fun c9 => absurd (by rw [hb_2]; rfl) c9)
          refine lv_iconst (v := nI 0) hx hb d_Cb_canBe_199 (by decide) ?_
          exact W.zret (v := nI 0) (ty := .boolean) hx hb hr (bI_nar false) (fun t9 h9t h9W => ⟨_, rfl, by unfold cOK; rw [if_neg (by decide)]; rw [if_neg (by decide)]; rw [if_neg (by decide)]; rw [if_neg (by decide)]; rw [if_neg (by decide)]; rw [if_neg (by decide)]; rw [if_neg (by decide)]; rw [if_neg (by decide)]; rw [if_neg (by decide)]; rw [if_neg (by decide)]; rw [if_pos rfl]; rw [hb_0, hb_1, hb_2]; rfl, h9t⟩) (fun _ h => nomatch h) d_Cb_canBe_200
        · refine lv_if_eq (tgt := 199) hx hb d_Cb_canBe_192 (by decide) (fun c9 => absurd c9 (by rw [hb_2]; decide)) (fun _ => ?_)
          refine lv_iconst (v := nI 1) hx hb d_Cb_canBe_195 (by decide) ?_
          refine lv_goto (tgt := 200) hx hb d_Cb_canBe_196 (by decide) ?_
          exact W.zret (v := nI 1) (ty := .boolean) hx hb hr (bI_nar true) (fun t9 h9t h9W => ⟨_, rfl, by unfold cOK; rw [if_neg (by decide)]; rw [if_neg (by decide)]; rw [if_neg (by decide)]; rw [if_neg (by decide)]; rw [if_neg (by decide)]; rw [if_neg (by decide)]; rw [if_neg (by decide)]; rw [if_neg (by decide)]; rw [if_neg (by decide)]; rw [if_neg (by decide)]; rw [if_pos rfl]; rw [hb_0, hb_1, hb_2]; rfl, h9t⟩) (fun _ h => nomatch h) d_Cb_canBe_200
  · refine lv_iload_n hx hb d_Cb_canBe_0 rfl (lv_at hl 1 rfl) ?_
    refine lv_tableOut (tgt := 201) hx hb d_Cb_canBe_1 hk (by decide) ?_
    refine lv_iconst (v := nI 0) hx hb d_Cb_canBe_201 (by decide) ?_
    exact W.zret (v := nI 0) (ty := .boolean) hx hb hr (bI_nar false) (fun t9 h9t h9W => ⟨_, rfl, by unfold cOK; rw [if_neg (k11_no hk (show 0 < 11 by decide)), if_neg (k11_no hk (show 1 < 11 by decide)), if_neg (k11_no hk (show 2 < 11 by decide)), if_neg (k11_no hk (show 3 < 11 by decide)), if_neg (k11_no hk (show 4 < 11 by decide)), if_neg (k11_no hk (show 5 < 11 by decide)), if_neg (k11_no hk (show 6 < 11 by decide)), if_neg (k11_no hk (show 7 < 11 by decide)), if_neg (k11_no hk (show 8 < 11 by decide)), if_neg (k11_no hk (show 9 < 11 by decide)), if_neg (k11_no hk (show 10 < 11 by decide))]; rfl, h9t⟩) (fun _ h => nomatch h) d_Cb_canBe_202

set_option maxHeartbeats 4000000 in
set_option maxRecDepth 100000 in
/-- putTogether -/
theorem c_Cb_put (l : Launch) (G : GG) (L : List Nat) (f : Nat → va_E) {cb mA gA n : Nat} {ad wa kd : Nat → Nat} {ka kb kc : Nat → Int32} {wd : Nat → Nat → Int64} {mm : Nat → Bool} (hB : CoB G L f cb mA gA n ad wa kd ka kb kc wd mm) {it iw k a b c_ : Nat} {xa xb xc : Int32} (hit : Lk L f it (.inr (0, [.int (nI k), .int xa, .int xb, .int xc, .ref iw]))) (ho : okC n k xa xb xc a b c_) (j : Nat) (hj : j < 96) (h6_ : 6 ≤ k) : Met l y_Cb_putTogether (.code y_Cb_putTogether b_Cb_putTogether 3 (some .long) :: AW) (RM 3) (va_Pc [.ref cb, .ref it, .int (nI j)] (PW G L f)) (vp_Sl (fun r => r = wrd mm wd k a b c_ j)) 0 0 (fun _ => False) := by
  refine Met.ofW (cc := b_Cb_putTogether) (maxL := 3) (ret := (some .long)) (by decide) rfl ?_
  intro p e s m args below meth c s₁ B hml hv
  obtain ⟨rfl, hP, hK⟩ := hv
  have hx := B.exec
  have hb := B.bytes
  have hr := B.returns
  have hA : ∀ w ∈ AW, w.before _ s = true := fun w h => atoms_spec (ws := (.code y_Cb_putTogether b_Cb_putTogether 3 (some .long) :: AW)) B.pre w (List.mem_cons_of_mem _ h)
  have hown : s.vm.findClass R_Cb = some m.cls := findClass_of_methodNamed B.named
  have hlocks := B.notSynchronized
  have hl := lv_entry ([.ref cb, .ref it, .int (nI j)]) (n := 3) (Nat.le_of_ble_eq_true rfl)
  rw [lg_entry_eq]
  generalize (lg_sl ([.ref cb, .ref it, .int (nI j)]) ++ List.replicate (3 - (lg_sl ([.ref cb, .ref it, .int (nI j)])).length) Slot.unset).toArray = ls at hl ⊢
  have hl : lv_has ls 3 [(0, .ref cb), (1, .ref it), (2, .int (nI j))] := hl
  have hn := hB.1
  obtain ⟨hk10, hoa, hob, hoc, -, -, -, -, -, -, h6, h7, h10⟩ := ho
  rcases (show k = 6 ∨ k = 7 ∨ k = 8 ∨ k = 9 ∨ k = 10 by omega) with hk | hk | hk | hk | hk
  · obtain rfl : k = 6 := hk
    obtain rfl := hoa (by decide)
    have hb1 := h6 rfl
    refine lv_aload_n hx hb d_Cb_putTogether_0 rfl (lv_at hl 1 rfl) ?_
    refine va_getN (D := G.1) (ci := 0) (v := .int (nI 6)) (C := R_Co) (T := T_Co) (N := 5) hx hb hA in_Co hown hK.1 (pl_o hP hit) 0 rfl rfl 0 (by decide) (va_Nw.use rfl (hK.2.1 _ kz_5)) (fun _ h9 => h9) rfl d_Cb_putTogether_1 ?_
    refine lv_tableIn (x := nI 6) (off := 36) (tgt := 40) hx hb d_Cb_putTogether_4 (by decide) (by decide) rfl (by decide) ?_
    refine lv_aload_n hx hb d_Cb_putTogether_40 rfl (lv_at hl 0 rfl) ?_
    refine lv_aload_n hx hb d_Cb_putTogether_41 rfl (lv_at hl 1 rfl) ?_
    refine va_getN (D := G.1) (ci := 0) (v := .int (nI a)) (C := R_Co) (T := T_Co) (N := 5) hx hb hA in_Co hown hK.1 (pl_o hP hit) 0 rfl rfl 1 (by decide) (va_Nw.use rfl (hK.2.1 _ kz_6)) (fun _ h9 => h9) rfl d_Cb_putTogether_42 ?_
    refine lv_iload_n hx hb d_Cb_putTogether_45 rfl (lv_at hl 2 rfl) ?_
    refine vp_callSl (va_Run.run (va_runV (As := [.int (nI a), .int (nI j)]) (rest := []) ⟨hx, hb, hml, hown, hA⟩ (c_Cb_wordOf l G L f hB a j (by omega) hj) ⟨callB_of 2 hA (gAW kw_25) rfl rfl rfl (hA _ kw_19) (hA _ kw_26) (by decide +kernel) ⟨Nat.le_of_ble_eq_true rfl, Nat.le_of_ble_eq_true rfl⟩, (hA _ kw_27), (hA _ kw_28)⟩ (pw_preV (ci := 1) hP hK hB.2.1 rfl) rfl rfl hl.1 rfl (lv_room (Nat.le_of_ble_eq_true rfl)) d_Cb_putTogether_46 ⟨Nat.zero_le _, Nat.zero_le _⟩)) (fun r_1 e_2 => ?_)
    subst e_2
    refine lv_ldc2 (v := (-1)) hx hb hown (hA _ kw_29) d_Cb_putTogether_49 ?_
    refine lv_lxor hx hb d_Cb_putTogether_52 ?_
    exact W.lret (v := (wd a j) ^^^ (-1)) hx hb hr (fun t9 h9t h9W => ⟨_, rfl, rfl, h9t⟩) (fun _ h => nomatch h) d_Cb_putTogether_53
  · obtain rfl : k = 7 := hk
    obtain rfl := hoa (by decide)
    obtain rfl := hob (by decide)
    have hb1 := h7 (by decide)
    refine lv_aload_n hx hb d_Cb_putTogether_0 rfl (lv_at hl 1 rfl) ?_
    refine va_getN (D := G.1) (ci := 0) (v := .int (nI 7)) (C := R_Co) (T := T_Co) (N := 5) hx hb hA in_Co hown hK.1 (pl_o hP hit) 0 rfl rfl 0 (by decide) (va_Nw.use rfl (hK.2.1 _ kz_5)) (fun _ h9 => h9) rfl d_Cb_putTogether_1 ?_
    refine lv_tableIn (x := nI 7) (off := 50) (tgt := 54) hx hb d_Cb_putTogether_4 (by decide) (by decide) rfl (by decide) ?_
    refine lv_aload_n hx hb d_Cb_putTogether_54 rfl (lv_at hl 0 rfl) ?_
    refine lv_aload_n hx hb d_Cb_putTogether_55 rfl (lv_at hl 1 rfl) ?_
    refine va_getN (D := G.1) (ci := 0) (v := .int (nI a)) (C := R_Co) (T := T_Co) (N := 5) hx hb hA in_Co hown hK.1 (pl_o hP hit) 0 rfl rfl 1 (by decide) (va_Nw.use rfl (hK.2.1 _ kz_6)) (fun _ h9 => h9) rfl d_Cb_putTogether_56 ?_
    refine lv_iload_n hx hb d_Cb_putTogether_59 rfl (lv_at hl 2 rfl) ?_
    refine vp_callSl (va_Run.run (va_runV (As := [.int (nI a), .int (nI j)]) (rest := []) ⟨hx, hb, hml, hown, hA⟩ (c_Cb_wordOf l G L f hB a j (by omega) hj) ⟨callB_of 2 hA (gAW kw_25) rfl rfl rfl (hA _ kw_19) (hA _ kw_26) (by decide +kernel) ⟨Nat.le_of_ble_eq_true rfl, Nat.le_of_ble_eq_true rfl⟩, (hA _ kw_27), (hA _ kw_28)⟩ (pw_preV (ci := 1) hP hK hB.2.1 rfl) rfl rfl hl.1 rfl (lv_room (Nat.le_of_ble_eq_true rfl)) d_Cb_putTogether_60 ⟨Nat.zero_le _, Nat.zero_le _⟩)) (fun r_3 e_4 => ?_)
    subst e_4
    refine lv_aload_n hx hb d_Cb_putTogether_63 rfl (lv_at hl 0 rfl) ?_
    refine lv_aload_n hx hb d_Cb_putTogether_64 rfl (lv_at hl 1 rfl) ?_
    refine va_getN (D := G.1) (ci := 0) (v := .int (nI b)) (C := R_Co) (T := T_Co) (N := 5) hx hb hA in_Co hown hK.1 (pl_o hP hit) 0 rfl rfl 2 (by decide) (va_Nw.use rfl (hK.2.1 _ kz_7)) (fun _ h9 => h9) rfl d_Cb_putTogether_65 ?_
    refine lv_iload_n hx hb d_Cb_putTogether_68 rfl (lv_at hl 2 rfl) ?_
    refine vp_callSl (va_Run.run (va_runV (As := [.int (nI b), .int (nI j)]) (rest := [.long (wd a j)]) ⟨hx, hb, hml, hown, hA⟩ (c_Cb_wordOf l G L f hB b j (by omega) hj) ⟨callB_of 2 hA (gAW kw_25) rfl rfl rfl (hA _ kw_19) (hA _ kw_26) (by decide +kernel) ⟨Nat.le_of_ble_eq_true rfl, Nat.le_of_ble_eq_true rfl⟩, (hA _ kw_27), (hA _ kw_28)⟩ (pw_preV (ci := 1) hP hK hB.2.1 rfl) rfl rfl hl.1 rfl (lv_room (Nat.le_of_ble_eq_true rfl)) d_Cb_putTogether_69 ⟨Nat.zero_le _, Nat.zero_le _⟩)) (fun r_5 e_6 => ?_)
    subst e_6
    refine lv_land hx hb d_Cb_putTogether_72 ?_
    exact W.lret (v := (wd a j) &&& (wd b j)) hx hb hr (fun t9 h9t h9W => ⟨_, rfl, rfl, h9t⟩) (fun _ h => nomatch h) d_Cb_putTogether_73
  · obtain rfl : k = 8 := hk
    obtain rfl := hoa (by decide)
    obtain rfl := hob (by decide)
    have hb1 := h7 (by decide)
    refine lv_aload_n hx hb d_Cb_putTogether_0 rfl (lv_at hl 1 rfl) ?_
    refine va_getN (D := G.1) (ci := 0) (v := .int (nI 8)) (C := R_Co) (T := T_Co) (N := 5) hx hb hA in_Co hown hK.1 (pl_o hP hit) 0 rfl rfl 0 (by decide) (va_Nw.use rfl (hK.2.1 _ kz_5)) (fun _ h9 => h9) rfl d_Cb_putTogether_1 ?_
    refine lv_tableIn (x := nI 8) (off := 70) (tgt := 74) hx hb d_Cb_putTogether_4 (by decide) (by decide) rfl (by decide) ?_
    refine lv_aload_n hx hb d_Cb_putTogether_74 rfl (lv_at hl 0 rfl) ?_
    refine lv_aload_n hx hb d_Cb_putTogether_75 rfl (lv_at hl 1 rfl) ?_
    refine va_getN (D := G.1) (ci := 0) (v := .int (nI a)) (C := R_Co) (T := T_Co) (N := 5) hx hb hA in_Co hown hK.1 (pl_o hP hit) 0 rfl rfl 1 (by decide) (va_Nw.use rfl (hK.2.1 _ kz_6)) (fun _ h9 => h9) rfl d_Cb_putTogether_76 ?_
    refine lv_iload_n hx hb d_Cb_putTogether_79 rfl (lv_at hl 2 rfl) ?_
    refine vp_callSl (va_Run.run (va_runV (As := [.int (nI a), .int (nI j)]) (rest := []) ⟨hx, hb, hml, hown, hA⟩ (c_Cb_wordOf l G L f hB a j (by omega) hj) ⟨callB_of 2 hA (gAW kw_25) rfl rfl rfl (hA _ kw_19) (hA _ kw_26) (by decide +kernel) ⟨Nat.le_of_ble_eq_true rfl, Nat.le_of_ble_eq_true rfl⟩, (hA _ kw_27), (hA _ kw_28)⟩ (pw_preV (ci := 1) hP hK hB.2.1 rfl) rfl rfl hl.1 rfl (lv_room (Nat.le_of_ble_eq_true rfl)) d_Cb_putTogether_80 ⟨Nat.zero_le _, Nat.zero_le _⟩)) (fun r_7 e_8 => ?_)
    subst e_8
    refine lv_aload_n hx hb d_Cb_putTogether_83 rfl (lv_at hl 0 rfl) ?_
    refine lv_aload_n hx hb d_Cb_putTogether_84 rfl (lv_at hl 1 rfl) ?_
    refine va_getN (D := G.1) (ci := 0) (v := .int (nI b)) (C := R_Co) (T := T_Co) (N := 5) hx hb hA in_Co hown hK.1 (pl_o hP hit) 0 rfl rfl 2 (by decide) (va_Nw.use rfl (hK.2.1 _ kz_7)) (fun _ h9 => h9) rfl d_Cb_putTogether_85 ?_
    refine lv_iload_n hx hb d_Cb_putTogether_88 rfl (lv_at hl 2 rfl) ?_
    refine vp_callSl (va_Run.run (va_runV (As := [.int (nI b), .int (nI j)]) (rest := [.long (wd a j)]) ⟨hx, hb, hml, hown, hA⟩ (c_Cb_wordOf l G L f hB b j (by omega) hj) ⟨callB_of 2 hA (gAW kw_25) rfl rfl rfl (hA _ kw_19) (hA _ kw_26) (by decide +kernel) ⟨Nat.le_of_ble_eq_true rfl, Nat.le_of_ble_eq_true rfl⟩, (hA _ kw_27), (hA _ kw_28)⟩ (pw_preV (ci := 1) hP hK hB.2.1 rfl) rfl rfl hl.1 rfl (lv_room (Nat.le_of_ble_eq_true rfl)) d_Cb_putTogether_89 ⟨Nat.zero_le _, Nat.zero_le _⟩)) (fun r_9 e_10 => ?_)
    subst e_10
    refine lv_lor hx hb d_Cb_putTogether_92 ?_
    exact W.lret (v := (wd a j) ||| (wd b j)) hx hb hr (fun t9 h9t h9W => ⟨_, rfl, rfl, h9t⟩) (fun _ h => nomatch h) d_Cb_putTogether_93
  · obtain rfl : k = 9 := hk
    skip
    refine lv_aload_n hx hb d_Cb_putTogether_0 rfl (lv_at hl 1 rfl) ?_
    refine va_getN (D := G.1) (ci := 0) (v := .int (nI 9)) (C := R_Co) (T := T_Co) (N := 5) hx hb hA in_Co hown hK.1 (pl_o hP hit) 0 rfl rfl 0 (by decide) (va_Nw.use rfl (hK.2.1 _ kz_5)) (fun _ h9 => h9) rfl d_Cb_putTogether_1 ?_
    refine lv_tableIn (x := nI 9) (off := 90) (tgt := 94) hx hb d_Cb_putTogether_4 (by decide) (by decide) rfl (by decide) ?_
    refine lv_ldc2 (v := (-1)) hx hb hown (hA _ kw_29) d_Cb_putTogether_94 ?_
    exact W.lret (v := (-1)) hx hb hr (fun t9 h9t h9W => ⟨_, rfl, rfl, h9t⟩) (fun _ h => nomatch h) d_Cb_putTogether_97
  · obtain rfl : k = 10 := hk
    obtain rfl := hoa (by decide)
    obtain rfl := hob (by decide)
    obtain rfl := hoc (by decide)
    have hb1 := h10 rfl
    refine lv_aload_n hx hb d_Cb_putTogether_0 rfl (lv_at hl 1 rfl) ?_
    refine va_getN (D := G.1) (ci := 0) (v := .int (nI 10)) (C := R_Co) (T := T_Co) (N := 5) hx hb hA in_Co hown hK.1 (pl_o hP hit) 0 rfl rfl 0 (by decide) (va_Nw.use rfl (hK.2.1 _ kz_5)) (fun _ h9 => h9) rfl d_Cb_putTogether_1 ?_
    refine lv_tableIn (x := nI 10) (off := 94) (tgt := 98) hx hb d_Cb_putTogether_4 (by decide) (by decide) rfl (by decide) ?_
    refine lv_aload_n hx hb d_Cb_putTogether_98 rfl (lv_at hl 0 rfl) ?_
    refine lv_aload_n hx hb d_Cb_putTogether_99 rfl (lv_at hl 1 rfl) ?_
    refine va_getN (D := G.1) (ci := 0) (v := .int (nI a)) (C := R_Co) (T := T_Co) (N := 5) hx hb hA in_Co hown hK.1 (pl_o hP hit) 0 rfl rfl 1 (by decide) (va_Nw.use rfl (hK.2.1 _ kz_6)) (fun _ h9 => h9) rfl d_Cb_putTogether_100 ?_
    refine lv_iload_n hx hb d_Cb_putTogether_103 rfl (lv_at hl 2 rfl) ?_
    refine vp_callSl (va_Run.run (va_runV (As := [.int (nI a), .int (nI j)]) (rest := []) ⟨hx, hb, hml, hown, hA⟩ (c_Cb_wordOf l G L f hB a j (by omega) hj) ⟨callB_of 2 hA (gAW kw_25) rfl rfl rfl (hA _ kw_19) (hA _ kw_26) (by decide +kernel) ⟨Nat.le_of_ble_eq_true rfl, Nat.le_of_ble_eq_true rfl⟩, (hA _ kw_27), (hA _ kw_28)⟩ (pw_preV (ci := 1) hP hK hB.2.1 rfl) rfl rfl hl.1 rfl (lv_room (Nat.le_of_ble_eq_true rfl)) d_Cb_putTogether_104 ⟨Nat.zero_le _, Nat.zero_le _⟩)) (fun r_11 e_12 => ?_)
    subst e_12
    refine lv_aload_n hx hb d_Cb_putTogether_107 rfl (lv_at hl 0 rfl) ?_
    refine lv_aload_n hx hb d_Cb_putTogether_108 rfl (lv_at hl 1 rfl) ?_
    refine va_getN (D := G.1) (ci := 0) (v := .int (nI b)) (C := R_Co) (T := T_Co) (N := 5) hx hb hA in_Co hown hK.1 (pl_o hP hit) 0 rfl rfl 2 (by decide) (va_Nw.use rfl (hK.2.1 _ kz_7)) (fun _ h9 => h9) rfl d_Cb_putTogether_109 ?_
    refine lv_iload_n hx hb d_Cb_putTogether_112 rfl (lv_at hl 2 rfl) ?_
    refine vp_callSl (va_Run.run (va_runV (As := [.int (nI b), .int (nI j)]) (rest := [.long (wd a j)]) ⟨hx, hb, hml, hown, hA⟩ (c_Cb_wordOf l G L f hB b j (by omega) hj) ⟨callB_of 2 hA (gAW kw_25) rfl rfl rfl (hA _ kw_19) (hA _ kw_26) (by decide +kernel) ⟨Nat.le_of_ble_eq_true rfl, Nat.le_of_ble_eq_true rfl⟩, (hA _ kw_27), (hA _ kw_28)⟩ (pw_preV (ci := 1) hP hK hB.2.1 rfl) rfl rfl hl.1 rfl (lv_room (Nat.le_of_ble_eq_true rfl)) d_Cb_putTogether_113 ⟨Nat.zero_le _, Nat.zero_le _⟩)) (fun r_13 e_14 => ?_)
    subst e_14
    refine lv_aload_n hx hb d_Cb_putTogether_116 rfl (lv_at hl 0 rfl) ?_
    refine lv_aload_n hx hb d_Cb_putTogether_117 rfl (lv_at hl 1 rfl) ?_
    refine va_getN (D := G.1) (ci := 0) (v := .int (nI c_)) (C := R_Co) (T := T_Co) (N := 5) hx hb hA in_Co hown hK.1 (pl_o hP hit) 0 rfl rfl 3 (by decide) (va_Nw.use rfl (hK.2.1 _ kz_8)) (fun _ h9 => h9) rfl d_Cb_putTogether_118 ?_
    refine lv_iload_n hx hb d_Cb_putTogether_121 rfl (lv_at hl 2 rfl) ?_
    refine vp_callSl (va_Run.run (va_runV (As := [.int (nI c_), .int (nI j)]) (rest := [.long (wd b j), .long (wd a j)]) ⟨hx, hb, hml, hown, hA⟩ (c_Cb_wordOf l G L f hB c_ j (by omega) hj) ⟨callB_of 2 hA (gAW kw_25) rfl rfl rfl (hA _ kw_19) (hA _ kw_26) (by decide +kernel) ⟨Nat.le_of_ble_eq_true rfl, Nat.le_of_ble_eq_true rfl⟩, (hA _ kw_27), (hA _ kw_28)⟩ (pw_preV (ci := 1) hP hK hB.2.1 rfl) rfl rfl hl.1 rfl (lv_room (Nat.le_of_ble_eq_true rfl)) d_Cb_putTogether_122 ⟨Nat.zero_le _, Nat.zero_le _⟩)) (fun r_15 e_16 => ?_)
    subst e_16
    refine vp_callSl (va_Run.run (va_runS (As := [.long (wd a j), .long (wd b j), .long (wd c_ j)]) (rest := []) ⟨hx, hb, hml, hown, hA⟩ (c_Cb_two3 l G L f (wd a j) (wd b j) (wd c_ j)) ⟨callB_of 3 hA (gAW kw_30) rfl rfl rfl (hA _ kw_19) (hA _ kw_31) (by decide +kernel) ⟨Nat.le_of_ble_eq_true rfl, Nat.le_of_ble_eq_true rfl⟩, (hA _ kw_32)⟩ (pw_preS hP hK) rfl rfl hl.1 rfl (lv_room (Nat.le_of_ble_eq_true rfl)) d_Cb_putTogether_125 ⟨Nat.zero_le _, Nat.zero_le _⟩)) (fun r_17 e_18 => ?_)
    subst e_18
    exact W.lret (v := two3 (wd a j) (wd b j) (wd c_ j)) hx hb hr (fun t9 h9t h9W => ⟨_, rfl, rfl, h9t⟩) (fun _ h => nomatch h) d_Cb_putTogether_128

set_option maxHeartbeats 4000000 in
set_option maxRecDepth 100000 in
/-- workOut -/
theorem c_Cb_work (l : Launch) (G : GG) (L : List Nat) (f : Nat → va_E) {cb mA gA n : Nat} {ad wa kd : Nat → Nat} {ka kb kc : Nat → Int32} {wd : Nat → Nat → Int64} {mm : Nat → Bool} (hB : CoB G L f cb mA gA n ad wa kd ka kb kc wd mm) {it iw k a b c_ : Nat} {xa xb xc : Int32} (hit : Lk L f it (.inr (0, [.int (nI k), .int xa, .int xb, .int xc, .ref iw]))) (ho : okC n k xa xb xc a b c_) (j : Nat) (hj : j < 96) : Met l y_Cb_workOut (.code y_Cb_workOut b_Cb_workOut 3 (some .long) :: AW) (RM 4) (va_Pc [.ref cb, .ref it, .int (nI j)] (PW G L f)) (vp_Sl (fun r => r = wrd mm wd k a b c_ j)) 0 0 (fun _ => False) := by
  refine Met.ofW (cc := b_Cb_workOut) (maxL := 3) (ret := (some .long)) (by decide) rfl ?_
  intro p e s m args below meth c s₁ B hml hv
  obtain ⟨rfl, hP, hK⟩ := hv
  have hx := B.exec
  have hb := B.bytes
  have hr := B.returns
  have hA : ∀ w ∈ AW, w.before _ s = true := fun w h => atoms_spec (ws := (.code y_Cb_workOut b_Cb_workOut 3 (some .long) :: AW)) B.pre w (List.mem_cons_of_mem _ h)
  have hown : s.vm.findClass R_Cb = some m.cls := findClass_of_methodNamed B.named
  have hlocks := B.notSynchronized
  have hl := lv_entry ([.ref cb, .ref it, .int (nI j)]) (n := 3) (Nat.le_of_ble_eq_true rfl)
  rw [lg_entry_eq]
  generalize (lg_sl ([.ref cb, .ref it, .int (nI j)]) ++ List.replicate (3 - (lg_sl ([.ref cb, .ref it, .int (nI j)])).length) Slot.unset).toArray = ls at hl ⊢
  have hl : lv_has ls 3 [(0, .ref cb), (1, .ref it), (2, .int (nI j))] := hl
  have hn := hB.1
  have ho_ := ho
  obtain ⟨hk10, hoa, hob, hoc, h0, h1, h2, h3, h4, h5, -, -, -⟩ := ho
  rcases (show k = 0 ∨ k = 1 ∨ k = 2 ∨ k = 3 ∨ k = 4 ∨ k = 5 ∨ 6 ≤ k by omega) with hk | hk | hk | hk | hk | hk | hk
  · obtain rfl : k = 0 := hk
    obtain rfl := hoa (by decide)
    have hb1 := h0 rfl
    refine lv_aload_n hx hb d_Cb_workOut_0 rfl (lv_at hl 1 rfl) ?_
    refine va_getN (D := G.1) (ci := 0) (v := .int (nI 0)) (C := R_Co) (T := T_Co) (N := 5) hx hb hA in_Co hown hK.1 (pl_o hP hit) 0 rfl rfl 0 (by decide) (va_Nw.use rfl (hK.2.1 _ kz_5)) (fun _ h9 => h9) rfl d_Cb_workOut_1 ?_
    refine lv_tableIn (x := nI 0) (off := 40) (tgt := 44) hx hb d_Cb_workOut_4 (by decide) (by decide) rfl (by decide) ?_
    refine lv_iload_n hx hb d_Cb_workOut_44 rfl (lv_at hl 2 rfl) ?_
    refine lv_bipush (v := nI 12) hx hb d_Cb_workOut_45 (by decide) ?_
    refine lv_idiv hx hb d_Cb_workOut_47 (by decide) ?_
    refine xv_I (y := nI (j / 12)) (pk_div (by omega) (by decide) (by decide)) ?_
    refine lv_aload_n hx hb d_Cb_workOut_48 rfl (lv_at hl 1 rfl) ?_
    refine va_getN (D := G.1) (ci := 0) (v := .int (nI a)) (C := R_Co) (T := T_Co) (N := 5) hx hb hA in_Co hown hK.1 (pl_o hP hit) 0 rfl rfl 1 (by decide) (va_Nw.use rfl (hK.2.1 _ kz_6)) (fun _ h9 => h9) rfl d_Cb_workOut_49 ?_
    by_cases he : j / 12 = a
    · refine lv_icmp_ne (tgt := 61) hx hb d_Cb_workOut_52 (by decide) (fun c9 => absurd (congrArg nI he) c9) (fun _ => ?_)
      refine lv_ldc2 (v := (-1)) hx hb hown (hA _ kw_29) d_Cb_workOut_55 ?_
      refine lv_goto (tgt := 62) hx hb d_Cb_workOut_58 (by decide) ?_
      exact W.lret (v := (-1)) hx hb hr (fun t9 h9t h9W => ⟨_, rfl, by unfold wrd; rw [if_pos rfl]; rw [if_pos he], h9t⟩) (fun _ h => nomatch h) d_Cb_workOut_62
    · refine lv_icmp_ne (tgt := 61) hx hb d_Cb_workOut_52 (by decide) (fun _ => ?_) (fun c9 => absurd c9 (fun q => he ((nI_eq (by omega) (by omega)).mp q)))
      refine lv_lconst (v := 0) hx hb d_Cb_workOut_61 (by decide) ?_
      exact W.lret (v := 0) hx hb hr (fun t9 h9t h9W => ⟨_, rfl, by unfold wrd; rw [if_pos rfl]; rw [if_neg he], h9t⟩) (fun _ h => nomatch h) d_Cb_workOut_62
  · obtain rfl : k = 1 := hk
    obtain rfl := hoa (by decide)
    have hb1 := h1 rfl
    refine lv_aload_n hx hb d_Cb_workOut_0 rfl (lv_at hl 1 rfl) ?_
    refine va_getN (D := G.1) (ci := 0) (v := .int (nI 1)) (C := R_Co) (T := T_Co) (N := 5) hx hb hA in_Co hown hK.1 (pl_o hP hit) 0 rfl rfl 0 (by decide) (va_Nw.use rfl (hK.2.1 _ kz_5)) (fun _ h9 => h9) rfl d_Cb_workOut_1 ?_
    refine lv_tableIn (x := nI 1) (off := 59) (tgt := 63) hx hb d_Cb_workOut_4 (by decide) (by decide) rfl (by decide) ?_
    refine lv_aload_n hx hb d_Cb_workOut_63 rfl (lv_at hl 0 rfl) ?_
    refine lv_iload_n hx hb d_Cb_workOut_64 rfl (lv_at hl 2 rfl) ?_
    refine lv_bipush (v := nI 12) hx hb d_Cb_workOut_65 (by decide) ?_
    refine lv_idiv hx hb d_Cb_workOut_67 (by decide) ?_
    refine xv_I (y := nI (j / 12)) (pk_div (by omega) (by decide) (by decide)) ?_
    refine lv_aload_n hx hb d_Cb_workOut_68 rfl (lv_at hl 1 rfl) ?_
    refine va_getN (D := G.1) (ci := 0) (v := .int (nI a)) (C := R_Co) (T := T_Co) (N := 5) hx hb hA in_Co hown hK.1 (pl_o hP hit) 0 rfl rfl 1 (by decide) (va_Nw.use rfl (hK.2.1 _ kz_6)) (fun _ h9 => h9) rfl d_Cb_workOut_69 ?_
    refine vp_callSi (va_Run.run (va_runV (As := [.int (nI (j / 12)), .int (nI a)]) (rest := []) ⟨hx, hb, hml, hown, hA⟩ (c_Cb_isM l G L f hB (j / 12) a (by omega) hb1) ⟨callB_of 2 hA (gAW kw_33) rfl rfl rfl (hA _ kw_19) (hA _ kw_34) (by decide +kernel) ⟨Nat.le_of_ble_eq_true rfl, Nat.le_of_ble_eq_true rfl⟩, (hA _ kw_35), (hA _ kw_36)⟩ (pw_preV (ci := 1) hP hK hB.2.1 rfl) rfl rfl hl.1 rfl (lv_room (Nat.le_of_ble_eq_true rfl)) d_Cb_workOut_72 ⟨Nat.zero_le _, Nat.zero_le _⟩)) (fun r_1 e_2 => ?_)
    subst e_2
    rcases bcase (mm (j / 12 * 8 + a)) with hm_ | hm_
    · refine lv_if_eq (tgt := 84) hx hb d_Cb_workOut_75 (by decide) (fun _ => ?_) (fun c9 => absurd (by rw [hm_]; rfl) c9)
      refine lv_lconst (v := 0) hx hb d_Cb_workOut_84 (by decide) ?_
      exact W.lret (v := 0) hx hb hr (fun t9 h9t h9W => ⟨_, rfl, by unfold wrd; rw [if_neg (by decide), if_pos rfl, hm_]; rfl, h9t⟩) (fun _ h => nomatch h) d_Cb_workOut_85
    · refine lv_if_eq (tgt := 84) hx hb d_Cb_workOut_75 (by decide) (fun c9 => absurd c9 (by rw [hm_]; decide)) (fun _ => ?_)
      refine lv_ldc2 (v := (-1)) hx hb hown (hA _ kw_29) d_Cb_workOut_78 ?_
      refine lv_goto (tgt := 85) hx hb d_Cb_workOut_81 (by decide) ?_
      exact W.lret (v := (-1)) hx hb hr (fun t9 h9t h9W => ⟨_, rfl, by unfold wrd; rw [if_neg (by decide), if_pos rfl, hm_]; rfl, h9t⟩) (fun _ h => nomatch h) d_Cb_workOut_85
  · obtain rfl : k = 2 := hk
    obtain rfl := hoa (by decide)
    have hb1 := h2 rfl
    refine lv_aload_n hx hb d_Cb_workOut_0 rfl (lv_at hl 1 rfl) ?_
    refine va_getN (D := G.1) (ci := 0) (v := .int (nI 2)) (C := R_Co) (T := T_Co) (N := 5) hx hb hA in_Co hown hK.1 (pl_o hP hit) 0 rfl rfl 0 (by decide) (va_Nw.use rfl (hK.2.1 _ kz_5)) (fun _ h9 => h9) rfl d_Cb_workOut_1 ?_
    refine lv_tableIn (x := nI 2) (off := 82) (tgt := 86) hx hb d_Cb_workOut_4 (by decide) (by decide) rfl (by decide) ?_
    refine lv_iload_n hx hb d_Cb_workOut_86 rfl (lv_at hl 2 rfl) ?_
    refine lv_bipush (v := nI 12) hx hb d_Cb_workOut_87 (by decide) ?_
    refine lv_irem hx hb d_Cb_workOut_89 (by decide) ?_
    refine xv_I (y := nI (j % 12)) (pk_rem (by omega) (by decide) (by decide)) ?_
    refine lv_iconst (v := nI 3) hx hb d_Cb_workOut_90 (by decide) ?_
    refine lv_idiv hx hb d_Cb_workOut_91 (by decide) ?_
    refine xv_I (y := nI (j % 12 / 3)) (pk_div (by omega) (by decide) (by decide)) ?_
    refine lv_aload_n hx hb d_Cb_workOut_92 rfl (lv_at hl 1 rfl) ?_
    refine va_getN (D := G.1) (ci := 0) (v := .int (nI a)) (C := R_Co) (T := T_Co) (N := 5) hx hb hA in_Co hown hK.1 (pl_o hP hit) 0 rfl rfl 1 (by decide) (va_Nw.use rfl (hK.2.1 _ kz_6)) (fun _ h9 => h9) rfl d_Cb_workOut_93 ?_
    by_cases he : j % 12 / 3 = a
    · refine lv_icmp_ne (tgt := 105) hx hb d_Cb_workOut_96 (by decide) (fun c9 => absurd (congrArg nI he) c9) (fun _ => ?_)
      refine lv_ldc2 (v := (-1)) hx hb hown (hA _ kw_29) d_Cb_workOut_99 ?_
      refine lv_goto (tgt := 106) hx hb d_Cb_workOut_102 (by decide) ?_
      exact W.lret (v := (-1)) hx hb hr (fun t9 h9t h9W => ⟨_, rfl, by unfold wrd; rw [if_neg (by decide), if_neg (by decide), if_pos rfl]; rw [if_pos he], h9t⟩) (fun _ h => nomatch h) d_Cb_workOut_106
    · refine lv_icmp_ne (tgt := 105) hx hb d_Cb_workOut_96 (by decide) (fun _ => ?_) (fun c9 => absurd c9 (fun q => he ((nI_eq (by omega) (by omega)).mp q)))
      refine lv_lconst (v := 0) hx hb d_Cb_workOut_105 (by decide) ?_
      exact W.lret (v := 0) hx hb hr (fun t9 h9t h9W => ⟨_, rfl, by unfold wrd; rw [if_neg (by decide), if_neg (by decide), if_pos rfl]; rw [if_neg he], h9t⟩) (fun _ h => nomatch h) d_Cb_workOut_106
  · obtain rfl : k = 3 := hk
    obtain rfl := hoa (by decide)
    have hb1 := h3 rfl
    refine lv_aload_n hx hb d_Cb_workOut_0 rfl (lv_at hl 1 rfl) ?_
    refine va_getN (D := G.1) (ci := 0) (v := .int (nI 3)) (C := R_Co) (T := T_Co) (N := 5) hx hb hA in_Co hown hK.1 (pl_o hP hit) 0 rfl rfl 0 (by decide) (va_Nw.use rfl (hK.2.1 _ kz_5)) (fun _ h9 => h9) rfl d_Cb_workOut_1 ?_
    refine lv_tableIn (x := nI 3) (off := 103) (tgt := 107) hx hb d_Cb_workOut_4 (by decide) (by decide) rfl (by decide) ?_
    refine lv_iload_n hx hb d_Cb_workOut_107 rfl (lv_at hl 2 rfl) ?_
    refine lv_aload_n hx hb d_Cb_workOut_108 rfl (lv_at hl 1 rfl) ?_
    refine va_getN (D := G.1) (ci := 0) (v := .int (nI a)) (C := R_Co) (T := T_Co) (N := 5) hx hb hA in_Co hown hK.1 (pl_o hP hit) 0 rfl rfl 1 (by decide) (va_Nw.use rfl (hK.2.1 _ kz_6)) (fun _ h9 => h9) rfl d_Cb_workOut_109 ?_
    refine vp_callSl (va_Run.run (va_runS (As := [.int (nI j), .int (nI a)]) (rest := []) ⟨hx, hb, hml, hown, hA⟩ (c_Cb_pr l G L f j a hj hb1) ⟨callB_of 2 hA (gAW kw_37) rfl rfl rfl (hA _ kw_19) (hA _ kw_38) (by decide +kernel) ⟨Nat.le_of_ble_eq_true rfl, Nat.le_of_ble_eq_true rfl⟩, (hA _ kw_39)⟩ (pw_preS hP hK) rfl rfl hl.1 rfl (lv_room (Nat.le_of_ble_eq_true rfl)) d_Cb_workOut_112 ⟨Nat.zero_le _, Nat.zero_le _⟩)) (fun r_3 e_4 => ?_)
    subst e_4
    exact W.lret (v := prW j a) hx hb hr (fun t9 h9t h9W => ⟨_, rfl, rfl, h9t⟩) (fun _ h => nomatch h) d_Cb_workOut_115
  · obtain rfl : k = 4 := hk
    obtain rfl := hoa (by decide)
    have hb1 := h4 rfl
    refine lv_aload_n hx hb d_Cb_workOut_0 rfl (lv_at hl 1 rfl) ?_
    refine va_getN (D := G.1) (ci := 0) (v := .int (nI 4)) (C := R_Co) (T := T_Co) (N := 5) hx hb hA in_Co hown hK.1 (pl_o hP hit) 0 rfl rfl 0 (by decide) (va_Nw.use rfl (hK.2.1 _ kz_5)) (fun _ h9 => h9) rfl d_Cb_workOut_1 ?_
    refine lv_tableIn (x := nI 4) (off := 112) (tgt := 116) hx hb d_Cb_workOut_4 (by decide) (by decide) rfl (by decide) ?_
    refine lv_ldc2 (v := 1095216660735) hx hb hown (hA _ kw_40) d_Cb_workOut_116 ?_
    refine lv_aload_n hx hb d_Cb_workOut_119 rfl (lv_at hl 1 rfl) ?_
    refine va_getN (D := G.1) (ci := 0) (v := .int (nI a)) (C := R_Co) (T := T_Co) (N := 5) hx hb hA in_Co hown hK.1 (pl_o hP hit) 0 rfl rfl 1 (by decide) (va_Nw.use rfl (hK.2.1 _ kz_6)) (fun _ h9 => h9) rfl d_Cb_workOut_120 ?_
    refine lv_bipush (v := nI 8) hx hb d_Cb_workOut_123 (by decide) ?_
    refine lv_imul hx hb d_Cb_workOut_125 ?_
    refine xv_I (y := nI (a * 8)) (pk_mul _ _) ?_
    refine lv_lshl (v := 1095216660735 <<< (Int32.toInt64 (nI (a * 8)) &&& 63)) hx hb d_Cb_workOut_126 rfl ?_
    exact W.lret (v := 1095216660735 <<< (Int32.toInt64 (nI (a * 8)) &&& 63)) hx hb hr (fun t9 h9t h9W => ⟨_, rfl, rfl, h9t⟩) (fun _ h => nomatch h) d_Cb_workOut_127
  · obtain rfl : k = 5 := hk
    obtain rfl := hoa (by decide)
    obtain rfl := hob (by decide)
    have hb1 := h5 rfl
    refine lv_aload_n hx hb d_Cb_workOut_0 rfl (lv_at hl 1 rfl) ?_
    refine va_getN (D := G.1) (ci := 0) (v := .int (nI 5)) (C := R_Co) (T := T_Co) (N := 5) hx hb hA in_Co hown hK.1 (pl_o hP hit) 0 rfl rfl 0 (by decide) (va_Nw.use rfl (hK.2.1 _ kz_5)) (fun _ h9 => h9) rfl d_Cb_workOut_1 ?_
    refine lv_tableIn (x := nI 5) (off := 124) (tgt := 128) hx hb d_Cb_workOut_4 (by decide) (by decide) rfl (by decide) ?_
    refine lv_aload_n hx hb d_Cb_workOut_128 rfl (lv_at hl 1 rfl) ?_
    refine va_getN (D := G.1) (ci := 0) (v := .int (nI a)) (C := R_Co) (T := T_Co) (N := 5) hx hb hA in_Co hown hK.1 (pl_o hP hit) 0 rfl rfl 1 (by decide) (va_Nw.use rfl (hK.2.1 _ kz_6)) (fun _ h9 => h9) rfl d_Cb_workOut_129 ?_
    refine lv_aload_n hx hb d_Cb_workOut_132 rfl (lv_at hl 1 rfl) ?_
    refine va_getN (D := G.1) (ci := 0) (v := .int (nI b)) (C := R_Co) (T := T_Co) (N := 5) hx hb hA in_Co hown hK.1 (pl_o hP hit) 0 rfl rfl 2 (by decide) (va_Nw.use rfl (hK.2.1 _ kz_7)) (fun _ h9 => h9) rfl d_Cb_workOut_133 ?_
    refine vp_callSl (va_Run.run (va_runSN (As := [.int (nI a), .int (nI b)]) (rest := []) ⟨hx, hb, hml, hown, hA⟩ (c_De_vf l G L f a b (by omega) (by omega)) ⟨va_cnB 2 hA (gAW kw_41) rfl rfl rfl (hK.2.1 _ kz_9) (hA _ kw_5) (by decide +kernel) ⟨Nat.le_of_ble_eq_true rfl, Nat.le_of_ble_eq_true rfl⟩, (hA _ kw_42), trivial⟩ (pw_preS hP hK) rfl rfl hl.1 rfl (lv_room (Nat.le_of_ble_eq_true rfl)) d_Cb_workOut_136 ⟨Nat.zero_le _, Nat.zero_le _⟩)) (fun r_5 e_6 => ?_)
    subst e_6
    exact W.lret (v := vfR a b 8) hx hb hr (fun t9 h9t h9W => ⟨_, rfl, rfl, h9t⟩) (fun _ h => nomatch h) d_Cb_workOut_139
  · refine lv_aload_n hx hb d_Cb_workOut_0 rfl (lv_at hl 1 rfl) ?_
    refine va_getN (D := G.1) (ci := 0) (v := .int (nI k)) (C := R_Co) (T := T_Co) (N := 5) hx hb hA in_Co hown hK.1 (pl_o hP hit) 0 rfl rfl 0 (by decide) (va_Nw.use rfl (hK.2.1 _ kz_5)) (fun _ h9 => h9) rfl d_Cb_workOut_1 ?_
    refine lv_tableOut (tgt := 140) hx hb d_Cb_workOut_4 (Or.inr (by rw [nI_toInt (by omega)]; omega)) (by decide) ?_
    refine lv_aload_n hx hb d_Cb_workOut_140 rfl (lv_at hl 0 rfl) ?_
    refine lv_aload_n hx hb d_Cb_workOut_141 rfl (lv_at hl 1 rfl) ?_
    refine lv_iload_n hx hb d_Cb_workOut_142 rfl (lv_at hl 2 rfl) ?_
    refine vp_callSl (va_Run.run (va_runV (As := [.ref it, .int (nI j)]) (rest := []) ⟨hx, hb, hml, hown, hA⟩ (c_Cb_put l G L f hB hit ho_ j hj hk) ⟨callB_of 2 hA (gAW kw_43) rfl rfl rfl (hA _ kw_19) (hA _ kw_44) (by decide +kernel) ⟨Nat.le_of_ble_eq_true rfl, Nat.le_of_ble_eq_true rfl⟩, (hA _ kw_45), (hA _ kw_46)⟩ (pw_preV (ci := 1) hP hK hB.2.1 rfl) rfl rfl hl.1 rfl (lv_room (Nat.le_of_ble_eq_true rfl)) d_Cb_workOut_143 ⟨Nat.zero_le _, Nat.zero_le _⟩)) (fun r_7 e_8 => ?_)
    subst e_8
    exact W.lret (v := wrd mm wd k a b c_ j) hx hb hr (fun t9 h9t h9W => ⟨_, rfl, rfl, h9t⟩) (fun _ h => nomatch h) d_Cb_workOut_146
end
section
set_option maxHeartbeats 4000000 in
set_option maxRecDepth 100000 in
/-- wordAt -/
theorem c_Rb_wordAt (l : Launch) (G : GG) (L : List Nat) (f : Nat → va_E) {rb rA n : Nat} {rad ca wa rk nu : Nat → Nat} {dn : Nat → Bool} {ww : Nat → Nat → Int64} (hB : RuB G L f rb rA n rad ca wa rk nu dn ww) (q j : Nat) (hq : q < n) (hj : j < 96) : Met l y_Rb_wordAt (.code y_Rb_wordAt b_Rb_wordAt 4 (some .long) :: AW) (RM 3) (va_Pc [.ref rb, .int (nI q), .int (nI j)] (PW G L f)) (vp_Sl (fun r => r = ww q j)) 0 0 (fun _ => False) := by
  refine Met.ofW (cc := b_Rb_wordAt) (maxL := 4) (ret := (some .long)) (by decide) rfl ?_
  intro p e s m args below meth c s₁ B hml hv
  obtain ⟨rfl, hP, hK⟩ := hv
  have hx := B.exec
  have hb := B.bytes
  have hr := B.returns
  have hA : ∀ w ∈ AW, w.before _ s = true := fun w h => atoms_spec (ws := (.code y_Rb_wordAt b_Rb_wordAt 4 (some .long) :: AW)) B.pre w (List.mem_cons_of_mem _ h)
  have hown : s.vm.findClass R_Rb = some m.cls := findClass_of_methodNamed B.named
  have hlocks := B.notSynchronized
  have hl := lv_entry ([.ref rb, .int (nI q), .int (nI j)]) (n := 4) (Nat.le_of_ble_eq_true rfl)
  rw [lg_entry_eq]
  generalize (lg_sl ([.ref rb, .int (nI q), .int (nI j)]) ++ List.replicate (4 - (lg_sl ([.ref rb, .int (nI q), .int (nI j)])).length) Slot.unset).toArray = ls at hl ⊢
  have hl : lv_has ls 4 [(0, .ref rb), (1, .int (nI q)), (2, .int (nI j))] := hl
  have hn := hB.1
  obtain ⟨hrk, hnu, hru, ⟨k0, k1, k2, k3, hco⟩, hwa⟩ := hB.2.2.2 q hq
  refine lv_aload_n hx hb d_Rb_wordAt_0 rfl (lv_at hl 0 rfl) ?_
  refine lv_iload_n hx hb d_Rb_wordAt_1 rfl (lv_at hl 1 rfl) ?_
  refine va_csq (va_Run.run (va_runV (As := [.int (nI q)]) (rest := []) ⟨hx, hb, hml, hown, hA⟩ (c_Rb_at l G L f hB.2.1 hB.2.2.1 (nI q)) ⟨callB_of 1 hA (gAW kw_47) rfl rfl rfl (hA _ kw_48) (hA _ kw_49) (by decide +kernel) ⟨Nat.le_of_ble_eq_true rfl, Nat.le_of_ble_eq_true rfl⟩, (hA _ kw_50), (hA _ kw_51)⟩ (pw_preV (ci := 3) hP hK hB.2.1 rfl) rfl rfl hl.1 rfl (lv_room (Nat.le_of_ble_eq_true rfl)) d_Rb_wordAt_2 ⟨Nat.zero_le _, Nat.zero_le _⟩)) (fun r_1 e_2 => ?_)
  subst e_2
  refine xv_R (a := rad q) (oAt_t (by decide) hn hq) ?_
  refine lv_astore_n (lv' := [(3, .ref (rad q)), (0, .ref rb), (1, .int (nI q)), (2, .int (nI j))]) hx hb d_Rb_wordAt_5 rfl hl (by decide) rfl (fun ls hl => ?_)
  refine lv_aload_n hx hb d_Rb_wordAt_6 rfl (lv_at hl 0 rfl) ?_
  refine lv_ifnonnull (tgt := 14) hx hb d_Rb_wordAt_7 (by decide) ?_
  refine lv_aload_n hx hb d_Rb_wordAt_14 rfl (lv_at hl 0 rfl) ?_
  refine lv_iload_n hx hb d_Rb_wordAt_15 rfl (lv_at hl 3 rfl) ?_
  refine vp_callSl (va_Run.run (va_runVN (As := [.int (nI j)]) (rest := []) ⟨hx, hb, hml, hown, hA⟩ (c_Ru_word l G L f hco hwa hru j hj) ⟨va_cnB 1 hA (gAW kw_52) rfl rfl rfl (hK.2.1 _ kz_10) (hA _ kw_53) (by decide +kernel) ⟨Nat.le_of_ble_eq_true rfl, Nat.le_of_ble_eq_true rfl⟩, (hA _ kw_54), (hA _ kw_55)⟩ (pw_preV (ci := 2) hP hK hru rfl) rfl rfl hl.1 rfl (lv_room (Nat.le_of_ble_eq_true rfl)) d_Rb_wordAt_16 ⟨Nat.zero_le _, Nat.zero_le _⟩)) (fun r_3 e_4 => ?_)
  subst e_4
  exact W.lret (v := ww q j) hx hb hr (fun t9 h9t h9W => ⟨_, rfl, rfl, h9t⟩) (fun _ h => nomatch h) d_Rb_wordAt_19

set_option maxHeartbeats 4000000 in
set_option maxRecDepth 100000 in
/-- placeOf -/
theorem c_Rb_placeOf (l : Launch) (G : GG) (L : List Nat) (f : Nat → va_E) {rb rA n : Nat} {rad ca wa rk nu : Nat → Nat} {dn : Nat → Bool} {ww : Nat → Nat → Int64} (hB : RuB G L f rb rA n rad ca wa rk nu dn ww) (x : Int32) : Met l y_Rb_placeOf (.code y_Rb_placeOf b_Rb_placeOf 4 (some .int) :: AW) (RM 2) (va_Pc [.ref rb, .int x] (PW G L f)) (vp_Si (fun r => r = plN (fst0 (isNo n nu x) 20 0))) 0 0 (fun _ => False) := by
  refine Met.ofW (cc := b_Rb_placeOf) (maxL := 4) (ret := (some .int)) (by decide) rfl ?_
  intro p e s m args below meth c s₁ B hml hv
  obtain ⟨rfl, hP, hK⟩ := hv
  have hx := B.exec
  have hb := B.bytes
  have hr := B.returns
  have hA : ∀ w ∈ AW, w.before _ s = true := fun w h => atoms_spec (ws := (.code y_Rb_placeOf b_Rb_placeOf 4 (some .int) :: AW)) B.pre w (List.mem_cons_of_mem _ h)
  have hown : s.vm.findClass R_Rb = some m.cls := findClass_of_methodNamed B.named
  have hlocks := B.notSynchronized
  have hl := lv_entry ([.ref rb, .int x]) (n := 4) (Nat.le_of_ble_eq_true rfl)
  rw [lg_entry_eq]
  generalize (lg_sl ([.ref rb, .int x]) ++ List.replicate (4 - (lg_sl ([.ref rb, .int x])).length) Slot.unset).toArray = ls at hl ⊢
  have hl : lv_has ls 4 [(0, .ref rb), (1, .int x)] := hl
  have hn := hB.1
  refine lv_iconst (v := nI 0) hx hb d_Rb_placeOf_0 (by decide) ?_
  refine lv_istore_n (lv' := [(2, .int (nI 0)), (0, .ref rb), (1, .int x)]) hx hb d_Rb_placeOf_1 rfl hl (by decide) rfl (fun ls hl => ?_)
  have loop : ∀ (k q : Nat) (ls : Array Slot), q + k = 20 → fst0 (isNo n nu x) 20 0 = fst0 (isNo n nu x) k q → lv_has ls 4 [(0, .ref rb), (1, .int x), (2, .int (nI q))] → W p l e (headSpec (.code y_Rb_placeOf b_Rb_placeOf 4 (some .int) :: AW) (RM 2)).room s m ([.ref rb, .int x] : List Value).toArray below meth c s.heap [] 0 0 (MQ below (vp_Si (fun r => r = plN (fst0 (isNo n nu x) 20 0))) ([.ref rb, .int x] : List Value).toArray s 0 0 (fun _ => False)) (F0 m 2 ls []) := by
    intro k
    induction k with
    | zero =>
      intro q  ls hik hres hl
      refine lv_iload_n hx hb d_Rb_placeOf_2 rfl (lv_at hl 2 rfl) ?_
      refine lv_aload_n hx hb d_Rb_placeOf_3 rfl (lv_at hl 0 rfl) ?_
      refine va_get (D := G.1) (ci := 3) (v := .ref rA) (C := R_Rb) (T := T_Rb) (N := 2) hx hb hA in_Rb hown hK.1 (pl_o hP hB.2.1) 0 rfl rfl 0 (by decide) (hA _ kw_8) (fun _ h9 => h9) rfl d_Rb_placeOf_4 ?_
      refine va_alen (v := nI 20) hx hb hK.1 (pl_o hP hB.2.2.1) 0 3 rfl rfl rfl d_Rb_placeOf_7 ?_
      refine lv_icmp_ge (tgt := 37) hx hb d_Rb_placeOf_8 (by decide) (fun _ => ?_) (fun c9 => absurd (nI_le (by omega) (by omega)) c9)
      refine lv_iconst (v := (-1)) hx hb d_Rb_placeOf_37 (by decide) ?_
      exact W.iret (v := (-1)) hx hb hr (fun t9 h9t h9W => ⟨_, rfl, by rw [hres]; rfl, h9t⟩) (fun _ h => nomatch h) d_Rb_placeOf_38
    | succ k ih =>
      intro q  ls hik hres hl
      refine lv_iload_n hx hb d_Rb_placeOf_2 rfl (lv_at hl 2 rfl) ?_
      refine lv_aload_n hx hb d_Rb_placeOf_3 rfl (lv_at hl 0 rfl) ?_
      refine va_get (D := G.1) (ci := 3) (v := .ref rA) (C := R_Rb) (T := T_Rb) (N := 2) hx hb hA in_Rb hown hK.1 (pl_o hP hB.2.1) 0 rfl rfl 0 (by decide) (hA _ kw_8) (fun _ h9 => h9) rfl d_Rb_placeOf_4 ?_
      refine va_alen (v := nI 20) hx hb hK.1 (pl_o hP hB.2.2.1) 0 3 rfl rfl rfl d_Rb_placeOf_7 ?_
      refine lv_icmp_ge (tgt := 37) hx hb d_Rb_placeOf_8 (by decide) (fun c9 => absurd c9 (nI_ge (by omega) (by omega))) (fun _ => ?_)
      by_cases hq : q < n
      · obtain ⟨hrk, hnu, hru, ⟨k0, k1, k2, k3, hco⟩, hwa⟩ := hB.2.2.2 q hq
        refine lv_aload_n hx hb d_Rb_placeOf_11 rfl (lv_at hl 0 rfl) ?_
        refine lv_iload_n hx hb d_Rb_placeOf_12 rfl (lv_at hl 2 rfl) ?_
        refine va_csq (va_Run.run (va_runV (As := [.int (nI q)]) (rest := []) ⟨hx, hb, hml, hown, hA⟩ (c_Rb_at l G L f hB.2.1 hB.2.2.1 (nI q)) ⟨callB_of 1 hA (gAW kw_47) rfl rfl rfl (hA _ kw_48) (hA _ kw_49) (by decide +kernel) ⟨Nat.le_of_ble_eq_true rfl, Nat.le_of_ble_eq_true rfl⟩, (hA _ kw_50), (hA _ kw_51)⟩ (pw_preV (ci := 3) hP hK hB.2.1 rfl) rfl rfl hl.1 rfl (lv_room (Nat.le_of_ble_eq_true rfl)) d_Rb_placeOf_13 ⟨Nat.zero_le _, Nat.zero_le _⟩)) (fun r_1 e_2 => ?_)
        subst e_2
        refine xv_R (a := rad q) (oAt_t (by decide) hn hq) ?_
        refine lv_astore_n (lv' := [(3, .ref (rad q)), (0, .ref rb), (1, .int x), (2, .int (nI q))]) hx hb d_Rb_placeOf_16 rfl hl (by decide) rfl (fun ls hl => ?_)
        refine lv_aload_n hx hb d_Rb_placeOf_17 rfl (lv_at hl 0 rfl) ?_
        refine lv_ifnull hx hb d_Rb_placeOf_18 ?_
        refine lv_aload_n hx hb d_Rb_placeOf_21 rfl (lv_at hl 0 rfl) ?_
        refine va_getN (D := G.1) (ci := 2) (v := .int (nI (nu q))) (C := R_Ru) (T := T_Ru) (N := 4) hx hb hA in_Ru hown hK.1 (pl_o hP hru) 0 rfl rfl 3 (by decide) (va_Nw.use rfl (hK.2.1 _ kz_11)) (fun _ h9 => h9) rfl d_Rb_placeOf_22 ?_
        refine lv_iload_n hx hb d_Rb_placeOf_25 rfl (lv_at hl 2 rfl) ?_
        by_cases he : nI (nu q) = x
        · refine lv_icmp_ne (tgt := 31) hx hb d_Rb_placeOf_26 (by decide) (fun c9 => absurd he c9) (fun _ => ?_)
          refine lv_iload_n hx hb d_Rb_placeOf_29 rfl (lv_at hl 3 rfl) ?_
          exact W.iret (v := nI q) hx hb hr (fun t9 h9t h9W => ⟨_, rfl, by rw [hres]; exact (congrArg plN (fst0_hit (isNo_t hq he))).symm, h9t⟩) (fun _ h => nomatch h) d_Rb_placeOf_30
        · refine lv_icmp_ne (tgt := 31) hx hb d_Rb_placeOf_26 (by decide) (fun _ => ?_) (fun c9 => absurd c9 he)
          refine lv_iinc (v := nI (q + 1)) (lv' := [(2, .int (nI (q + 1))), (3, .ref (rad q)), (0, .ref rb), (1, .int x)]) hx hb d_Rb_placeOf_31 hl (k := 3) rfl (nI_1 q) (by decide) rfl (fun ls hl => ?_)
          refine lv_goto (tgt := 2) hx hb d_Rb_placeOf_34 (by decide) ?_
          exact ih (q + 1)  ls (by omega) (hres.trans (if_neg (isNo_f2 he))) (lv_sub hl [2, 3, 0] rfl)
      · refine lv_aload_n hx hb d_Rb_placeOf_11 rfl (lv_at hl 0 rfl) ?_
        refine lv_iload_n hx hb d_Rb_placeOf_12 rfl (lv_at hl 2 rfl) ?_
        refine va_csq (va_Run.run (va_runV (As := [.int (nI q)]) (rest := []) ⟨hx, hb, hml, hown, hA⟩ (c_Rb_at l G L f hB.2.1 hB.2.2.1 (nI q)) ⟨callB_of 1 hA (gAW kw_47) rfl rfl rfl (hA _ kw_48) (hA _ kw_49) (by decide +kernel) ⟨Nat.le_of_ble_eq_true rfl, Nat.le_of_ble_eq_true rfl⟩, (hA _ kw_50), (hA _ kw_51)⟩ (pw_preV (ci := 3) hP hK hB.2.1 rfl) rfl rfl hl.1 rfl (lv_room (Nat.le_of_ble_eq_true rfl)) d_Rb_placeOf_13 ⟨Nat.zero_le _, Nat.zero_le _⟩)) (fun r_3 e_4 => ?_)
        subst e_4
        refine xv_N (oAt_f (by decide) (by omega) (by omega)) ?_
        refine lv_astore_nN (lv' := [(3, .null), (0, .ref rb), (1, .int x), (2, .int (nI q))]) hx hb d_Rb_placeOf_16 rfl hl (by decide) rfl (fun ls hl => ?_)
        refine lv_aload_nN hx hb d_Rb_placeOf_17 rfl (lv_at hl 0 rfl) ?_
        refine lv_ifnullN (tgt := 31) hx hb d_Rb_placeOf_18 (by decide) ?_
        refine lv_iinc (v := nI (q + 1)) (lv' := [(2, .int (nI (q + 1))), (3, .null), (0, .ref rb), (1, .int x)]) hx hb d_Rb_placeOf_31 hl (k := 3) rfl (nI_1 q) (by decide) rfl (fun ls hl => ?_)
        refine lv_goto (tgt := 2) hx hb d_Rb_placeOf_34 (by decide) ?_
        exact ih (q + 1)  ls (by omega) (hres.trans (if_neg (isNo_f1 hq))) (lv_sub hl [2, 3, 0] rfl)
  exact loop (20 - 0) 0  ls (by omega) rfl (lv_sub hl [1, 2, 0] rfl)

set_option maxHeartbeats 4000000 in
set_option maxRecDepth 100000 in
/-- placeFor -/
theorem c_Rb_placeFor (l : Launch) (G : GG) (L : List Nat) (f : Nat → va_E) {rb rA n : Nat} {rad ca wa rk nu : Nat → Nat} {dn : Nat → Bool} {ww : Nat → Nat → Int64} (hB : RuB G L f rb rA n rad ca wa rk nu dn ww) {fr r0 a0 : Nat} {d0 : Bool} {n0 : Int32} (hfr : Lk L f fr (.inr (2, [.int (nI r0), .int (bI d0), .ref a0, .int n0]))) (hr0 : r0 < 10) : Met l y_Rb_placeFor (.code y_Rb_placeFor b_Rb_placeFor 4 (some .int) :: AW) (RM 2) (va_Pc [.ref rb, .ref fr] (PW G L f)) (vp_Si (fun r => r = plF (fst0 (isPl n r0 d0 rk dn) 20 0))) 0 0 (fun _ => False) := by
  refine Met.ofW (cc := b_Rb_placeFor) (maxL := 4) (ret := (some .int)) (by decide) rfl ?_
  intro p e s m args below meth c s₁ B hml hv
  obtain ⟨rfl, hP, hK⟩ := hv
  have hx := B.exec
  have hb := B.bytes
  have hr := B.returns
  have hA : ∀ w ∈ AW, w.before _ s = true := fun w h => atoms_spec (ws := (.code y_Rb_placeFor b_Rb_placeFor 4 (some .int) :: AW)) B.pre w (List.mem_cons_of_mem _ h)
  have hown : s.vm.findClass R_Rb = some m.cls := findClass_of_methodNamed B.named
  have hlocks := B.notSynchronized
  have hl := lv_entry ([.ref rb, .ref fr]) (n := 4) (Nat.le_of_ble_eq_true rfl)
  rw [lg_entry_eq]
  generalize (lg_sl ([.ref rb, .ref fr]) ++ List.replicate (4 - (lg_sl ([.ref rb, .ref fr])).length) Slot.unset).toArray = ls at hl ⊢
  have hl : lv_has ls 4 [(0, .ref rb), (1, .ref fr)] := hl
  have hn := hB.1
  refine lv_iconst (v := nI 0) hx hb d_Rb_placeFor_0 (by decide) ?_
  refine lv_istore_n (lv' := [(2, .int (nI 0)), (0, .ref rb), (1, .ref fr)]) hx hb d_Rb_placeFor_1 rfl hl (by decide) rfl (fun ls hl => ?_)
  have loop : ∀ (k q : Nat) (ls : Array Slot), q + k = 20 → fst0 (isPl n r0 d0 rk dn) 20 0 = fst0 (isPl n r0 d0 rk dn) k q → lv_has ls 4 [(0, .ref rb), (1, .ref fr), (2, .int (nI q))] → W p l e (headSpec (.code y_Rb_placeFor b_Rb_placeFor 4 (some .int) :: AW) (RM 2)).room s m ([.ref rb, .ref fr] : List Value).toArray below meth c s.heap [] 0 0 (MQ below (vp_Si (fun r => r = plF (fst0 (isPl n r0 d0 rk dn) 20 0))) ([.ref rb, .ref fr] : List Value).toArray s 0 0 (fun _ => False)) (F0 m 2 ls []) := by
    intro k
    induction k with
    | zero =>
      intro q  ls hik hres hl
      refine lv_iload_n hx hb d_Rb_placeFor_2 rfl (lv_at hl 2 rfl) ?_
      refine lv_aload_n hx hb d_Rb_placeFor_3 rfl (lv_at hl 0 rfl) ?_
      refine va_get (D := G.1) (ci := 3) (v := .ref rA) (C := R_Rb) (T := T_Rb) (N := 2) hx hb hA in_Rb hown hK.1 (pl_o hP hB.2.1) 0 rfl rfl 0 (by decide) (hA _ kw_8) (fun _ h9 => h9) rfl d_Rb_placeFor_4 ?_
      refine va_alen (v := nI 20) hx hb hK.1 (pl_o hP hB.2.2.1) 0 3 rfl rfl rfl d_Rb_placeFor_7 ?_
      refine lv_icmp_ge (tgt := 37) hx hb d_Rb_placeFor_8 (by decide) (fun _ => ?_) (fun c9 => absurd (nI_le (by omega) (by omega)) c9)
      refine lv_aload_n hx hb d_Rb_placeFor_37 rfl (lv_at hl 0 rfl) ?_
      refine va_get (D := G.1) (ci := 3) (v := .ref rA) (C := R_Rb) (T := T_Rb) (N := 2) hx hb hA in_Rb hown hK.1 (pl_o hP hB.2.1) 0 rfl rfl 0 (by decide) (hA _ kw_8) (fun _ h9 => h9) rfl d_Rb_placeFor_38 ?_
      refine va_alen (v := nI 20) hx hb hK.1 (pl_o hP hB.2.2.1) 0 3 rfl rfl rfl d_Rb_placeFor_41 ?_
      exact W.iret (v := nI 20) hx hb hr (fun t9 h9t h9W => ⟨_, rfl, by rw [hres]; rfl, h9t⟩) (fun _ h => nomatch h) d_Rb_placeFor_42
    | succ k ih =>
      intro q  ls hik hres hl
      refine lv_iload_n hx hb d_Rb_placeFor_2 rfl (lv_at hl 2 rfl) ?_
      refine lv_aload_n hx hb d_Rb_placeFor_3 rfl (lv_at hl 0 rfl) ?_
      refine va_get (D := G.1) (ci := 3) (v := .ref rA) (C := R_Rb) (T := T_Rb) (N := 2) hx hb hA in_Rb hown hK.1 (pl_o hP hB.2.1) 0 rfl rfl 0 (by decide) (hA _ kw_8) (fun _ h9 => h9) rfl d_Rb_placeFor_4 ?_
      refine va_alen (v := nI 20) hx hb hK.1 (pl_o hP hB.2.2.1) 0 3 rfl rfl rfl d_Rb_placeFor_7 ?_
      refine lv_icmp_ge (tgt := 37) hx hb d_Rb_placeFor_8 (by decide) (fun c9 => absurd c9 (nI_ge (by omega) (by omega))) (fun _ => ?_)
      by_cases hq : q < n
      · obtain ⟨hrk, hnu, hru, ⟨k0, k1, k2, k3, hco⟩, hwa⟩ := hB.2.2.2 q hq
        refine lv_aload_n hx hb d_Rb_placeFor_11 rfl (lv_at hl 0 rfl) ?_
        refine lv_iload_n hx hb d_Rb_placeFor_12 rfl (lv_at hl 2 rfl) ?_
        refine va_csq (va_Run.run (va_runV (As := [.int (nI q)]) (rest := []) ⟨hx, hb, hml, hown, hA⟩ (c_Rb_at l G L f hB.2.1 hB.2.2.1 (nI q)) ⟨callB_of 1 hA (gAW kw_47) rfl rfl rfl (hA _ kw_48) (hA _ kw_49) (by decide +kernel) ⟨Nat.le_of_ble_eq_true rfl, Nat.le_of_ble_eq_true rfl⟩, (hA _ kw_50), (hA _ kw_51)⟩ (pw_preV (ci := 3) hP hK hB.2.1 rfl) rfl rfl hl.1 rfl (lv_room (Nat.le_of_ble_eq_true rfl)) d_Rb_placeFor_13 ⟨Nat.zero_le _, Nat.zero_le _⟩)) (fun r_1 e_2 => ?_)
        subst e_2
        refine xv_R (a := rad q) (oAt_t (by decide) hn hq) ?_
        refine lv_astore_n (lv' := [(3, .ref (rad q)), (0, .ref rb), (1, .ref fr), (2, .int (nI q))]) hx hb d_Rb_placeFor_16 rfl hl (by decide) rfl (fun ls hl => ?_)
        refine lv_aload_n hx hb d_Rb_placeFor_17 rfl (lv_at hl 0 rfl) ?_
        refine lv_ifnull hx hb d_Rb_placeFor_18 ?_
        refine lv_aload_n hx hb d_Rb_placeFor_21 rfl (lv_at hl 2 rfl) ?_
        refine lv_aload_n hx hb d_Rb_placeFor_22 rfl (lv_at hl 0 rfl) ?_
        refine vp_callSi (va_Run.run (va_runVN (As := [.ref (rad q)]) (rest := []) ⟨hx, hb, hml, hown, hA⟩ (c_Ru_gob l G L f hfr hru hr0 hrk) ⟨va_cnB 1 hA (gAW kw_56) rfl rfl rfl (hK.2.1 _ kz_12) (hA _ kw_53) (by decide +kernel) ⟨Nat.le_of_ble_eq_true rfl, Nat.le_of_ble_eq_true rfl⟩, (hA _ kw_57), (hA _ kw_58)⟩ (pw_preV (ci := 2) hP hK hfr rfl) rfl rfl hl.1 rfl (lv_room (Nat.le_of_ble_eq_true rfl)) d_Rb_placeFor_23 ⟨Nat.zero_le _, Nat.zero_le _⟩)) (fun r_3 e_4 => ?_)
        subst e_4
        rcases bcase (gob r0 d0 (rk q) (dn q)) with hg | hg
        · refine lv_if_eq (tgt := 31) hx hb d_Rb_placeFor_26 (by decide) (fun _ => ?_) (fun c9 => absurd (by rw [hg]; rfl) c9)
          refine lv_iinc (v := nI (q + 1)) (lv' := [(2, .int (nI (q + 1))), (3, .ref (rad q)), (0, .ref rb), (1, .ref fr)]) hx hb d_Rb_placeFor_31 hl (k := 3) rfl (nI_1 q) (by decide) rfl (fun ls hl => ?_)
          refine lv_goto (tgt := 2) hx hb d_Rb_placeFor_34 (by decide) ?_
          exact ih (q + 1)  ls (by omega) (hres.trans (if_neg (isPl_f hq hg))) (lv_sub hl [2, 3, 0] rfl)
        · refine lv_if_eq (tgt := 31) hx hb d_Rb_placeFor_26 (by decide) (fun c9 => absurd c9 (by rw [hg]; decide)) (fun _ => ?_)
          refine lv_iload_n hx hb d_Rb_placeFor_29 rfl (lv_at hl 3 rfl) ?_
          exact W.iret (v := nI q) hx hb hr (fun t9 h9t h9W => ⟨_, rfl, by rw [hres]; exact (congrArg plF (fst0_hit (isPl_t2 hg))).symm, h9t⟩) (fun _ h => nomatch h) d_Rb_placeFor_30
      · refine lv_aload_n hx hb d_Rb_placeFor_11 rfl (lv_at hl 0 rfl) ?_
        refine lv_iload_n hx hb d_Rb_placeFor_12 rfl (lv_at hl 2 rfl) ?_
        refine va_csq (va_Run.run (va_runV (As := [.int (nI q)]) (rest := []) ⟨hx, hb, hml, hown, hA⟩ (c_Rb_at l G L f hB.2.1 hB.2.2.1 (nI q)) ⟨callB_of 1 hA (gAW kw_47) rfl rfl rfl (hA _ kw_48) (hA _ kw_49) (by decide +kernel) ⟨Nat.le_of_ble_eq_true rfl, Nat.le_of_ble_eq_true rfl⟩, (hA _ kw_50), (hA _ kw_51)⟩ (pw_preV (ci := 3) hP hK hB.2.1 rfl) rfl rfl hl.1 rfl (lv_room (Nat.le_of_ble_eq_true rfl)) d_Rb_placeFor_13 ⟨Nat.zero_le _, Nat.zero_le _⟩)) (fun r_5 e_6 => ?_)
        subst e_6
        refine xv_N (oAt_f (by decide) (by omega) (by omega)) ?_
        refine lv_astore_nN (lv' := [(3, .null), (0, .ref rb), (1, .ref fr), (2, .int (nI q))]) hx hb d_Rb_placeFor_16 rfl hl (by decide) rfl (fun ls hl => ?_)
        refine lv_aload_nN hx hb d_Rb_placeFor_17 rfl (lv_at hl 0 rfl) ?_
        refine lv_ifnullN (tgt := 29) hx hb d_Rb_placeFor_18 (by decide) ?_
        refine lv_iload_n hx hb d_Rb_placeFor_29 rfl (lv_at hl 3 rfl) ?_
        exact W.iret (v := nI q) hx hb hr (fun t9 h9t h9W => ⟨_, rfl, by rw [hres]; exact (congrArg plF (fst0_hit (isPl_t1 (show n ≤ q by omega)))).symm, h9t⟩) (fun _ h => nomatch h) d_Rb_placeFor_30
  exact loop (20 - 0) 0  ls (by omega) rfl (lv_sub hl [1, 2, 0] rfl)

set_option maxHeartbeats 4000000 in
set_option maxRecDepth 100000 in
/-- deciderOf -/
theorem c_Rb_dec (l : Launch) (G : GG) (L : List Nat) (f : Nat → va_E) {rb rA n : Nat} {rad ca wa rk nu : Nat → Nat} {dn : Nat → Bool} {ww : Nat → Nat → Int64} (hB : RuB G L f rb rA n rad ca wa rk nu dn ww) (a : Nat) (ha : a < 6144) : Met l y_Rb_deciderOf (.code y_Rb_deciderOf b_Rb_deciderOf 7 (some (.object "RightDesk$Rule")) :: AW) (RM 3) (va_Pc [.ref rb, .int (nI a)] (PW G L f)) (va_Sq (fun r => r = Option.map rad (fst0 (hit ww a) n 0))) 0 0 (fun _ => False) := by
  refine Met.ofW (cc := b_Rb_deciderOf) (maxL := 7) (ret := (some (.object "RightDesk$Rule"))) (by decide) rfl ?_
  intro p e s m args below meth c s₁ B hml hv
  obtain ⟨rfl, hP, hK⟩ := hv
  have hx := B.exec
  have hb := B.bytes
  have hr := B.returns
  have hA : ∀ w ∈ AW, w.before _ s = true := fun w h => atoms_spec (ws := (.code y_Rb_deciderOf b_Rb_deciderOf 7 (some (.object "RightDesk$Rule")) :: AW)) B.pre w (List.mem_cons_of_mem _ h)
  have hown : s.vm.findClass R_Rb = some m.cls := findClass_of_methodNamed B.named
  have hlocks := B.notSynchronized
  have hl := lv_entry ([.ref rb, .int (nI a)]) (n := 7) (Nat.le_of_ble_eq_true rfl)
  rw [lg_entry_eq]
  generalize (lg_sl ([.ref rb, .int (nI a)]) ++ List.replicate (7 - (lg_sl ([.ref rb, .int (nI a)])).length) Slot.unset).toArray = ls at hl ⊢
  have hl : lv_has ls 7 [(0, .ref rb), (1, .int (nI a))] := hl
  have hn := hB.1
  refine lv_iload_n hx hb d_Rb_deciderOf_0 rfl (lv_at hl 1 rfl) ?_
  refine lv_bipush (v := nI 64) hx hb d_Rb_deciderOf_1 (by decide) ?_
  refine lv_idiv hx hb d_Rb_deciderOf_3 (by decide) ?_
  refine xv_I (y := nI (a / 64)) (pk_div (by omega) (by decide) (by decide)) ?_
  refine lv_istore_n (lv' := [(2, .int (nI (a / 64))), (0, .ref rb), (1, .int (nI a))]) hx hb d_Rb_deciderOf_4 rfl hl (by decide) rfl (fun ls hl => ?_)
  refine lv_lconst (v := 1) hx hb d_Rb_deciderOf_5 (by decide) ?_
  refine lv_iload_n hx hb d_Rb_deciderOf_6 rfl (lv_at hl 2 rfl) ?_
  refine lv_bipush (v := nI 64) hx hb d_Rb_deciderOf_7 (by decide) ?_
  refine lv_irem hx hb d_Rb_deciderOf_9 (by decide) ?_
  refine xv_I (y := nI (a % 64)) (pk_rem (by omega) (by decide) (by decide)) ?_
  refine lv_lshl (v := 1 <<< (Int32.toInt64 (nI (a % 64)) &&& 63)) hx hb d_Rb_deciderOf_10 rfl ?_
  refine xv_J (y := shl 1 (a % 64)) rfl ?_
  refine lv_lstore_n (lv' := [(3, .long (shl 1 (a % 64))), (2, .int (nI (a / 64))), (0, .ref rb), (1, .int (nI a))]) hx hb d_Rb_deciderOf_11 rfl hl (by decide) rfl (fun ls hl => ?_)
  refine lv_iconst (v := nI 0) hx hb d_Rb_deciderOf_12 (by decide) ?_
  refine lv_istore (lv' := [(5, .int (nI 0)), (3, .long (shl 1 (a % 64))), (2, .int (nI (a / 64))), (0, .ref rb), (1, .int (nI a))]) hx hb d_Rb_deciderOf_13 hl (by decide) rfl (fun ls hl => ?_)
  have loop : ∀ (k q : Nat) (ls : Array Slot), q + k = n → fst0 (hit ww a) n 0 = fst0 (hit ww a) k q → lv_has ls 7 [(0, .ref rb), (2, .int (nI (a / 64))), (3, .long (shl 1 (a % 64))), (5, .int (nI q))] → W p l e (headSpec (.code y_Rb_deciderOf b_Rb_deciderOf 7 (some (.object "RightDesk$Rule")) :: AW) (RM 3)).room s m ([.ref rb, .int (nI a)] : List Value).toArray below meth c s.heap [] 0 0 (MQ below (va_Sq (fun r => r = Option.map rad (fst0 (hit ww a) n 0))) ([.ref rb, .int (nI a)] : List Value).toArray s 0 0 (fun _ => False)) (F0 m 15 ls []) := by
    intro k
    induction k with
    | zero =>
      intro q  ls hik hres hl
      refine lv_iload hx hb d_Rb_deciderOf_15 (lv_at hl 3 rfl) ?_
      refine lv_aload_n hx hb d_Rb_deciderOf_17 rfl (lv_at hl 0 rfl) ?_
      refine va_get (D := G.1) (ci := 3) (v := .int (nI n)) (C := R_Rb) (T := T_Rb) (N := 2) hx hb hA in_Rb hown hK.1 (pl_o hP hB.2.1) 0 rfl rfl 1 (by decide) (hA _ kw_59) (fun _ h9 => h9) rfl d_Rb_deciderOf_18 ?_
      refine lv_icmp_ge (tgt := 59) hx hb d_Rb_deciderOf_21 (by decide) (fun _ => ?_) (fun c9 => absurd (nI_le (by omega) (by omega)) c9)
      refine lv_null hx hb d_Rb_deciderOf_59 ?_
      exact W.aret (v := .null) hx hb hr (Or.inl ⟨_, rfl⟩) (Or.inl rfl) (fun t9 h9t h9W => ⟨none, rfl, by rw [hres]; rfl, h9t⟩) (fun _ h => nomatch h) d_Rb_deciderOf_60
    | succ k ih =>
      intro q  ls hik hres hl
      refine lv_iload hx hb d_Rb_deciderOf_15 (lv_at hl 3 rfl) ?_
      refine lv_aload_n hx hb d_Rb_deciderOf_17 rfl (lv_at hl 0 rfl) ?_
      refine va_get (D := G.1) (ci := 3) (v := .int (nI n)) (C := R_Rb) (T := T_Rb) (N := 2) hx hb hA in_Rb hown hK.1 (pl_o hP hB.2.1) 0 rfl rfl 1 (by decide) (hA _ kw_59) (fun _ h9 => h9) rfl d_Rb_deciderOf_18 ?_
      refine lv_icmp_ge (tgt := 59) hx hb d_Rb_deciderOf_21 (by decide) (fun c9 => absurd c9 (nI_ge (by omega) (by omega))) (fun _ => ?_)
      have hq : q < n := by omega
      obtain ⟨hrk, hnu, hru, ⟨k0, k1, k2, k3, hco⟩, hwa⟩ := hB.2.2.2 q hq
      refine lv_aload_n hx hb d_Rb_deciderOf_24 rfl (lv_at hl 0 rfl) ?_
      refine lv_iload hx hb d_Rb_deciderOf_25 (lv_at hl 3 rfl) ?_
      refine va_csq (va_Run.run (va_runV (As := [.int (nI q)]) (rest := []) ⟨hx, hb, hml, hown, hA⟩ (c_Rb_at l G L f hB.2.1 hB.2.2.1 (nI q)) ⟨callB_of 1 hA (gAW kw_47) rfl rfl rfl (hA _ kw_48) (hA _ kw_49) (by decide +kernel) ⟨Nat.le_of_ble_eq_true rfl, Nat.le_of_ble_eq_true rfl⟩, (hA _ kw_50), (hA _ kw_51)⟩ (pw_preV (ci := 3) hP hK hB.2.1 rfl) rfl rfl hl.1 rfl (lv_room (Nat.le_of_ble_eq_true rfl)) d_Rb_deciderOf_27 ⟨Nat.zero_le _, Nat.zero_le _⟩)) (fun r_1 e_2 => ?_)
      subst e_2
      refine xv_R (a := rad q) (oAt_t (by decide) hn hq) ?_
      refine lv_astore (lv' := [(6, .ref (rad q)), (0, .ref rb), (2, .int (nI (a / 64))), (3, .long (shl 1 (a % 64))), (5, .int (nI q))]) hx hb d_Rb_deciderOf_30 hl (by decide) rfl (fun ls hl => ?_)
      refine lv_aload hx hb d_Rb_deciderOf_32 (lv_at hl 0 rfl) ?_
      refine lv_ifnull hx hb d_Rb_deciderOf_34 ?_
      refine lv_aload hx hb d_Rb_deciderOf_37 (lv_at hl 0 rfl) ?_
      refine lv_iload_n hx hb d_Rb_deciderOf_39 rfl (lv_at hl 2 rfl) ?_
      refine vp_callSl (va_Run.run (va_runVN (As := [.int (nI (a / 64))]) (rest := []) ⟨hx, hb, hml, hown, hA⟩ (c_Ru_word l G L f hco hwa hru (a / 64) (by omega)) ⟨va_cnB 1 hA (gAW kw_52) rfl rfl rfl (hK.2.1 _ kz_10) (hA _ kw_53) (by decide +kernel) ⟨Nat.le_of_ble_eq_true rfl, Nat.le_of_ble_eq_true rfl⟩, (hA _ kw_54), (hA _ kw_55)⟩ (pw_preV (ci := 2) hP hK hru rfl) rfl rfl hl.1 rfl (lv_room (Nat.le_of_ble_eq_true rfl)) d_Rb_deciderOf_40 ⟨Nat.zero_le _, Nat.zero_le _⟩)) (fun r_3 e_4 => ?_)
      subst e_4
      refine lv_lload_n hx hb d_Rb_deciderOf_43 rfl (lv_at hl 3 rfl) ?_
      refine lv_land hx hb d_Rb_deciderOf_44 ?_
      refine lv_lconst (v := 0) hx hb d_Rb_deciderOf_45 (by decide) ?_
      refine W.lcmp hx hb d_Rb_deciderOf_46 ?_
      by_cases hz : ww q (a / 64) &&& shl 1 (a % 64) = 0
      · refine lv_if_eq (tgt := 53) hx hb d_Rb_deciderOf_47 (by decide) (fun _ => ?_) (fun c9 => absurd ((lg_cmp_eq _ _).mpr hz) c9)
        refine lv_iinc (v := nI (q + 1)) (lv' := [(5, .int (nI (q + 1))), (6, .ref (rad q)), (0, .ref rb), (2, .int (nI (a / 64))), (3, .long (shl 1 (a % 64)))]) hx hb d_Rb_deciderOf_53 hl (k := 4) rfl (nI_1 q) (by decide) rfl (fun ls hl => ?_)
        refine lv_goto (tgt := 15) hx hb d_Rb_deciderOf_56 (by decide) ?_
        exact ih (q + 1)  ls (by omega) (hres.trans (if_neg (hit_f hz))) (lv_sub hl [2, 3, 4, 0] rfl)
      · refine lv_if_eq (tgt := 53) hx hb d_Rb_deciderOf_47 (by decide) (fun c9 => absurd c9 (fun z => hz ((lg_cmp_eq _ _).mp z))) (fun _ => ?_)
        refine lv_aload hx hb d_Rb_deciderOf_50 (lv_at hl 0 rfl) ?_
        exact W.aret (v := .ref (rad q)) hx hb hr (Or.inl ⟨_, rfl⟩) (Or.inr ⟨_, rfl⟩) (fun t9 h9t h9W => ⟨some (rad q), rfl, by rw [hres]; exact (congrArg (Option.map rad) (fst0_hit (hit_t hz))).symm, h9t⟩) (fun _ h => nomatch h) d_Rb_deciderOf_52
  exact loop (n - 0) 0  ls (by omega) rfl (lv_sub hl [3, 2, 1, 0] rfl)

set_option maxHeartbeats 4000000 in
set_option maxRecDepth 100000 in
/-- allowedFrom -/
theorem c_Rb_alF (l : Launch) (G : GG) (L : List Nat) (f : Nat → va_E) {rb rA n : Nat} {rad ca wa rk nu : Nat → Nat} {dn : Nat → Bool} {ww : Nat → Nat → Int64} (hB : RuB G L f rb rA n rad ca wa rk nu dn ww) (kk fr : Nat) (op : Int64) (j : Nat) (hfr : fr + kk = n) (hj : j < 96) : Met l y_Rb_allowedFrom (.code y_Rb_allowedFrom b_Rb_allowedFrom 13 (some .long) :: AW) (RM 3) (va_Pc [.ref rb, .int (nI fr), .long op, .int (nI j)] (PW G L f)) (vp_Sl (fun r => r = alF ww dn j kk fr op 0)) 0 0 (fun _ => False) := by
  refine Met.ofW (cc := b_Rb_allowedFrom) (maxL := 13) (ret := (some .long)) (by decide) rfl ?_
  intro p e s m args below meth c s₁ B hml hv
  obtain ⟨rfl, hP, hK⟩ := hv
  have hx := B.exec
  have hb := B.bytes
  have hr := B.returns
  have hA : ∀ w ∈ AW, w.before _ s = true := fun w h => atoms_spec (ws := (.code y_Rb_allowedFrom b_Rb_allowedFrom 13 (some .long) :: AW)) B.pre w (List.mem_cons_of_mem _ h)
  have hown : s.vm.findClass R_Rb = some m.cls := findClass_of_methodNamed B.named
  have hlocks := B.notSynchronized
  have hl := lv_entry ([.ref rb, .int (nI fr), .long op, .int (nI j)]) (n := 13) (Nat.le_of_ble_eq_true rfl)
  rw [lg_entry_eq]
  generalize (lg_sl ([.ref rb, .int (nI fr), .long op, .int (nI j)]) ++ List.replicate (13 - (lg_sl ([.ref rb, .int (nI fr), .long op, .int (nI j)])).length) Slot.unset).toArray = ls at hl ⊢
  have hl : lv_has ls 13 [(0, .ref rb), (1, .int (nI fr)), (2, .long op), (4, .int (nI j))] := hl
  have hn := hB.1
  refine lv_lload_n hx hb d_Rb_allowedFrom_0 rfl (lv_at hl 2 rfl) ?_
  refine lv_lstore (lv' := [(5, .long op), (0, .ref rb), (1, .int (nI fr)), (2, .long op), (4, .int (nI j))]) hx hb d_Rb_allowedFrom_1 hl (by decide) rfl (fun ls hl => ?_)
  refine lv_lconst (v := 0) hx hb d_Rb_allowedFrom_3 (by decide) ?_
  refine lv_lstore (lv' := [(7, .long 0), (5, .long op), (0, .ref rb), (1, .int (nI fr)), (2, .long op), (4, .int (nI j))]) hx hb d_Rb_allowedFrom_4 hl (by decide) rfl (fun ls hl => ?_)
  refine lv_iload_n hx hb d_Rb_allowedFrom_6 rfl (lv_at hl 3 rfl) ?_
  refine lv_istore (lv' := [(9, .int (nI fr)), (7, .long 0), (5, .long op), (0, .ref rb), (1, .int (nI fr)), (2, .long op), (4, .int (nI j))]) hx hb d_Rb_allowedFrom_7 hl (by decide) rfl (fun ls hl => ?_)
  have loop : ∀ (k q : Nat) (left : Int64) (al : Int64) (ls : Array Slot), q + k = n → alF ww dn j kk fr op 0 = alF ww dn j k q left al → lv_has ls 13 [(0, .ref rb), (4, .int (nI j)), (5, .long left), (7, .long al), (9, .int (nI q))] → W p l e (headSpec (.code y_Rb_allowedFrom b_Rb_allowedFrom 13 (some .long) :: AW) (RM 3)).room s m ([.ref rb, .int (nI fr), .long op, .int (nI j)] : List Value).toArray below meth c s.heap [] 0 0 (MQ below (vp_Sl (fun r => r = alF ww dn j kk fr op 0)) ([.ref rb, .int (nI fr), .long op, .int (nI j)] : List Value).toArray s 0 0 (fun _ => False)) (F0 m 9 ls []) := by
    intro k
    induction k with
    | zero =>
      intro q left al ls hik hres hl
      refine lv_iload hx hb d_Rb_allowedFrom_9 (lv_at hl 4 rfl) ?_
      refine lv_aload_n hx hb d_Rb_allowedFrom_11 rfl (lv_at hl 0 rfl) ?_
      refine va_get (D := G.1) (ci := 3) (v := .int (nI n)) (C := R_Rb) (T := T_Rb) (N := 2) hx hb hA in_Rb hown hK.1 (pl_o hP hB.2.1) 0 rfl rfl 1 (by decide) (hA _ kw_59) (fun _ h9 => h9) rfl d_Rb_allowedFrom_12 ?_
      refine lv_icmp_ge (tgt := 86) hx hb d_Rb_allowedFrom_15 (by decide) (fun _ => ?_) (fun c9 => absurd (nI_le (by omega) (by omega)) c9)
      refine lv_lload hx hb d_Rb_allowedFrom_86 (lv_at hl 3 rfl) ?_
      exact W.lret (v := al) hx hb hr (fun t9 h9t h9W => ⟨_, rfl, by rw [hres]; rfl, h9t⟩) (fun _ h => nomatch h) d_Rb_allowedFrom_88
    | succ k ih =>
      intro q left al ls hik hres hl
      refine lv_iload hx hb d_Rb_allowedFrom_9 (lv_at hl 4 rfl) ?_
      refine lv_aload_n hx hb d_Rb_allowedFrom_11 rfl (lv_at hl 0 rfl) ?_
      refine va_get (D := G.1) (ci := 3) (v := .int (nI n)) (C := R_Rb) (T := T_Rb) (N := 2) hx hb hA in_Rb hown hK.1 (pl_o hP hB.2.1) 0 rfl rfl 1 (by decide) (hA _ kw_59) (fun _ h9 => h9) rfl d_Rb_allowedFrom_12 ?_
      refine lv_icmp_ge (tgt := 86) hx hb d_Rb_allowedFrom_15 (by decide) (fun c9 => absurd c9 (nI_ge (by omega) (by omega))) (fun _ => ?_)
      refine lv_lload hx hb d_Rb_allowedFrom_18 (lv_at hl 2 rfl) ?_
      refine lv_lconst (v := 0) hx hb d_Rb_allowedFrom_20 (by decide) ?_
      refine W.lcmp hx hb d_Rb_allowedFrom_21 ?_
      by_cases hz : left = 0
      · refine lv_if_eq (tgt := 86) hx hb d_Rb_allowedFrom_22 (by decide) (fun _ => ?_) (fun c9 => absurd ((lg_cmp_eq _ _).mpr hz) c9)
        refine lv_lload hx hb d_Rb_allowedFrom_86 (lv_at hl 3 rfl) ?_
        exact W.lret (v := al) hx hb hr (fun t9 h9t h9W => ⟨_, rfl, by rw [hres]; exact (if_pos hz).symm, h9t⟩) (fun _ h => nomatch h) d_Rb_allowedFrom_88
      · refine lv_if_eq (tgt := 86) hx hb d_Rb_allowedFrom_22 (by decide) (fun c9 => absurd c9 (fun z => hz ((lg_cmp_eq _ _).mp z))) (fun _ => ?_)
        have hq : q < n := by omega
        obtain ⟨hrk, hnu, hru, ⟨k0, k1, k2, k3, hco⟩, hwa⟩ := hB.2.2.2 q hq
        refine lv_aload_n hx hb d_Rb_allowedFrom_25 rfl (lv_at hl 0 rfl) ?_
        refine lv_iload hx hb d_Rb_allowedFrom_26 (lv_at hl 4 rfl) ?_
        refine va_csq (va_Run.run (va_runV (As := [.int (nI q)]) (rest := []) ⟨hx, hb, hml, hown, hA⟩ (c_Rb_at l G L f hB.2.1 hB.2.2.1 (nI q)) ⟨callB_of 1 hA (gAW kw_47) rfl rfl rfl (hA _ kw_48) (hA _ kw_49) (by decide +kernel) ⟨Nat.le_of_ble_eq_true rfl, Nat.le_of_ble_eq_true rfl⟩, (hA _ kw_50), (hA _ kw_51)⟩ (pw_preV (ci := 3) hP hK hB.2.1 rfl) rfl rfl hl.1 rfl (lv_room (Nat.le_of_ble_eq_true rfl)) d_Rb_allowedFrom_28 ⟨Nat.zero_le _, Nat.zero_le _⟩)) (fun r_1 e_2 => ?_)
        subst e_2
        refine xv_R (a := rad q) (oAt_t (by decide) hn hq) ?_
        refine lv_astore (lv' := [(10, .ref (rad q)), (0, .ref rb), (4, .int (nI j)), (5, .long left), (7, .long al), (9, .int (nI q))]) hx hb d_Rb_allowedFrom_31 hl (by decide) rfl (fun ls hl => ?_)
        refine lv_aload hx hb d_Rb_allowedFrom_33 (lv_at hl 0 rfl) ?_
        refine lv_ifnull hx hb d_Rb_allowedFrom_35 ?_
        refine lv_lload hx hb d_Rb_allowedFrom_38 (lv_at hl 3 rfl) ?_
        refine lv_aload hx hb d_Rb_allowedFrom_40 (lv_at hl 0 rfl) ?_
        refine lv_iload hx hb d_Rb_allowedFrom_42 (lv_at hl 2 rfl) ?_
        refine vp_callSl (va_Run.run (va_runVN (As := [.int (nI j)]) (rest := [.long left]) ⟨hx, hb, hml, hown, hA⟩ (c_Ru_word l G L f hco hwa hru j hj) ⟨va_cnB 1 hA (gAW kw_52) rfl rfl rfl (hK.2.1 _ kz_10) (hA _ kw_53) (by decide +kernel) ⟨Nat.le_of_ble_eq_true rfl, Nat.le_of_ble_eq_true rfl⟩, (hA _ kw_54), (hA _ kw_55)⟩ (pw_preV (ci := 2) hP hK hru rfl) rfl rfl hl.1 rfl (lv_room (Nat.le_of_ble_eq_true rfl)) d_Rb_allowedFrom_44 ⟨Nat.zero_le _, Nat.zero_le _⟩)) (fun r_3 e_4 => ?_)
        subst e_4
        refine lv_land hx hb d_Rb_allowedFrom_47 ?_
        refine lv_lstore (lv' := [(11, .long (left &&& (ww q j))), (10, .ref (rad q)), (0, .ref rb), (4, .int (nI j)), (5, .long left), (7, .long al), (9, .int (nI q))]) hx hb d_Rb_allowedFrom_48 hl (by decide) rfl (fun ls hl => ?_)
        refine lv_lload hx hb d_Rb_allowedFrom_50 (lv_at hl 5 rfl) ?_
        refine lv_aload hx hb d_Rb_allowedFrom_52 (lv_at hl 1 rfl) ?_
        refine va_getN (D := G.1) (ci := 2) (v := .int (bI (dn q))) (C := R_Ru) (T := T_Ru) (N := 4) hx hb hA in_Ru hown hK.1 (pl_o hP hru) 0 rfl rfl 1 (by decide) (va_Nw.use rfl (hK.2.1 _ kz_13)) (fun _ h9 => h9) rfl d_Rb_allowedFrom_54 ?_
        rcases bcase (dn q) with hd | hd
        · refine lv_if_eq (tgt := 64) hx hb d_Rb_allowedFrom_57 (by decide) (fun _ => ?_) (fun c9 => absurd (by rw [hd]; rfl) c9)
          refine lv_lload hx hb d_Rb_allowedFrom_64 (lv_at hl 0 rfl) ?_
          refine lv_lor hx hb d_Rb_allowedFrom_66 ?_
          refine lv_lstore (lv' := [(7, .long (al ||| (left &&& (ww q j)))), (11, .long (left &&& (ww q j))), (10, .ref (rad q)), (0, .ref rb), (4, .int (nI j)), (5, .long left), (9, .int (nI q))]) hx hb d_Rb_allowedFrom_67 hl (by decide) rfl (fun ls hl => ?_)
          refine lv_lload hx hb d_Rb_allowedFrom_69 (lv_at hl 5 rfl) ?_
          refine lv_lload hx hb d_Rb_allowedFrom_71 (lv_at hl 1 rfl) ?_
          refine lv_ldc2 (v := (-1)) hx hb hown (hA _ kw_60) d_Rb_allowedFrom_73 ?_
          refine lv_lxor hx hb d_Rb_allowedFrom_76 ?_
          refine lv_land hx hb d_Rb_allowedFrom_77 ?_
          refine lv_lstore (lv' := [(5, .long (left &&& ((left &&& (ww q j)) ^^^ (-1)))), (7, .long (al ||| (left &&& (ww q j)))), (11, .long (left &&& (ww q j))), (10, .ref (rad q)), (0, .ref rb), (4, .int (nI j)), (9, .int (nI q))]) hx hb d_Rb_allowedFrom_78 hl (by decide) rfl (fun ls hl => ?_)
          refine lv_iinc (v := nI (q + 1)) (lv' := [(9, .int (nI (q + 1))), (5, .long (left &&& ((left &&& (ww q j)) ^^^ (-1)))), (7, .long (al ||| (left &&& (ww q j)))), (11, .long (left &&& (ww q j))), (10, .ref (rad q)), (0, .ref rb), (4, .int (nI j))]) hx hb d_Rb_allowedFrom_80 hl (k := 6) rfl (nI_1 q) (by decide) rfl (fun ls hl => ?_)
          refine lv_goto (tgt := 9) hx hb d_Rb_allowedFrom_83 (by decide) ?_
          exact ih (q + 1) (left &&& ((left &&& ww q j) ^^^ (-1))) (al ||| (left &&& ww q j)) ls (by omega) (hres.trans ((if_neg hz).trans (by rw [hd]; rfl))) (lv_sub hl [5, 6, 1, 2, 0] rfl)
        · refine lv_if_eq (tgt := 64) hx hb d_Rb_allowedFrom_57 (by decide) (fun c9 => absurd c9 (by rw [hd]; decide)) (fun _ => ?_)
          refine lv_lconst (v := 0) hx hb d_Rb_allowedFrom_60 (by decide) ?_
          refine lv_goto (tgt := 66) hx hb d_Rb_allowedFrom_61 (by decide) ?_
          refine lv_lor hx hb d_Rb_allowedFrom_66 ?_
          refine lv_lstore (lv' := [(7, .long (al ||| 0)), (11, .long (left &&& (ww q j))), (10, .ref (rad q)), (0, .ref rb), (4, .int (nI j)), (5, .long left), (9, .int (nI q))]) hx hb d_Rb_allowedFrom_67 hl (by decide) rfl (fun ls hl => ?_)
          refine lv_lload hx hb d_Rb_allowedFrom_69 (lv_at hl 5 rfl) ?_
          refine lv_lload hx hb d_Rb_allowedFrom_71 (lv_at hl 1 rfl) ?_
          refine lv_ldc2 (v := (-1)) hx hb hown (hA _ kw_60) d_Rb_allowedFrom_73 ?_
          refine lv_lxor hx hb d_Rb_allowedFrom_76 ?_
          refine lv_land hx hb d_Rb_allowedFrom_77 ?_
          refine lv_lstore (lv' := [(5, .long (left &&& ((left &&& (ww q j)) ^^^ (-1)))), (7, .long (al ||| 0)), (11, .long (left &&& (ww q j))), (10, .ref (rad q)), (0, .ref rb), (4, .int (nI j)), (9, .int (nI q))]) hx hb d_Rb_allowedFrom_78 hl (by decide) rfl (fun ls hl => ?_)
          refine lv_iinc (v := nI (q + 1)) (lv' := [(9, .int (nI (q + 1))), (5, .long (left &&& ((left &&& (ww q j)) ^^^ (-1)))), (7, .long (al ||| 0)), (11, .long (left &&& (ww q j))), (10, .ref (rad q)), (0, .ref rb), (4, .int (nI j))]) hx hb d_Rb_allowedFrom_80 hl (k := 6) rfl (nI_1 q) (by decide) rfl (fun ls hl => ?_)
          refine lv_goto (tgt := 9) hx hb d_Rb_allowedFrom_83 (by decide) ?_
          exact ih (q + 1) (left &&& ((left &&& ww q j) ^^^ (-1))) (al ||| 0) ls (by omega) (hres.trans ((if_neg hz).trans (by rw [hd]; rfl))) (lv_sub hl [5, 6, 1, 2, 0] rfl)
  exact loop (n - fr) fr op 0 ls (by omega) (by rw [show n - fr = kk by omega]) (lv_sub hl [3, 6, 2, 1, 0] rfl)

set_option maxHeartbeats 4000000 in
set_option maxRecDepth 100000 in
/-- decidedAt -/
theorem c_Rb_deF (l : Launch) (G : GG) (L : List Nat) (f : Nat → va_E) {rb rA n : Nat} {rad ca wa rk nu : Nat → Nat} {dn : Nat → Bool} {ww : Nat → Nat → Int64} (hB : RuB G L f rb rA n rad ca wa rk nu dn ww) (pl j : Nat) (hp_ : pl < n) (hj : j < 96) : Met l y_Rb_decidedAt (.code y_Rb_decidedAt b_Rb_decidedAt 6 (some .long) :: AW) (RM 4) (va_Pc [.ref rb, .int (nI pl), .int (nI j)] (PW G L f)) (vp_Sl (fun r => r = deF ww j pl 0 (ww pl j))) 0 0 (fun _ => False) := by
  refine Met.ofW (cc := b_Rb_decidedAt) (maxL := 6) (ret := (some .long)) (by decide) rfl ?_
  intro p e s m args below meth c s₁ B hml hv
  obtain ⟨rfl, hP, hK⟩ := hv
  have hx := B.exec
  have hb := B.bytes
  have hr := B.returns
  have hA : ∀ w ∈ AW, w.before _ s = true := fun w h => atoms_spec (ws := (.code y_Rb_decidedAt b_Rb_decidedAt 6 (some .long) :: AW)) B.pre w (List.mem_cons_of_mem _ h)
  have hown : s.vm.findClass R_Rb = some m.cls := findClass_of_methodNamed B.named
  have hlocks := B.notSynchronized
  have hl := lv_entry ([.ref rb, .int (nI pl), .int (nI j)]) (n := 6) (Nat.le_of_ble_eq_true rfl)
  rw [lg_entry_eq]
  generalize (lg_sl ([.ref rb, .int (nI pl), .int (nI j)]) ++ List.replicate (6 - (lg_sl ([.ref rb, .int (nI pl), .int (nI j)])).length) Slot.unset).toArray = ls at hl ⊢
  have hl : lv_has ls 6 [(0, .ref rb), (1, .int (nI pl)), (2, .int (nI j))] := hl
  have hn := hB.1
  refine lv_aload_n hx hb d_Rb_decidedAt_0 rfl (lv_at hl 0 rfl) ?_
  refine lv_iload_n hx hb d_Rb_decidedAt_1 rfl (lv_at hl 1 rfl) ?_
  refine lv_iload_n hx hb d_Rb_decidedAt_2 rfl (lv_at hl 2 rfl) ?_
  refine vp_callSl (va_Run.run (va_runV (As := [.int (nI pl), .int (nI j)]) (rest := []) ⟨hx, hb, hml, hown, hA⟩ (c_Rb_wordAt l G L f hB pl j hp_ hj) ⟨callB_of 2 hA (gAW kw_61) rfl rfl rfl (hA _ kw_48) (hA _ kw_62) (by decide +kernel) ⟨Nat.le_of_ble_eq_true rfl, Nat.le_of_ble_eq_true rfl⟩, (hA _ kw_63), (hA _ kw_64)⟩ (pw_preV (ci := 3) hP hK hB.2.1 rfl) rfl rfl hl.1 rfl (lv_room (Nat.le_of_ble_eq_true rfl)) d_Rb_decidedAt_3 ⟨Nat.zero_le _, Nat.zero_le _⟩)) (fun r_1 e_2 => ?_)
  subst e_2
  refine lv_lstore_n (lv' := [(3, .long (ww pl j)), (0, .ref rb), (1, .int (nI pl)), (2, .int (nI j))]) hx hb d_Rb_decidedAt_6 rfl hl (by decide) rfl (fun ls hl => ?_)
  refine lv_iconst (v := nI 0) hx hb d_Rb_decidedAt_7 (by decide) ?_
  refine lv_istore (lv' := [(5, .int (nI 0)), (3, .long (ww pl j)), (0, .ref rb), (1, .int (nI pl)), (2, .int (nI j))]) hx hb d_Rb_decidedAt_8 hl (by decide) rfl (fun ls hl => ?_)
  have loop : ∀ (k q : Nat) (left : Int64) (ls : Array Slot), q + k = pl → deF ww j pl 0 (ww pl j) = deF ww j k q left → lv_has ls 6 [(0, .ref rb), (1, .int (nI pl)), (2, .int (nI j)), (3, .long left), (5, .int (nI q))] → W p l e (headSpec (.code y_Rb_decidedAt b_Rb_decidedAt 6 (some .long) :: AW) (RM 4)).room s m ([.ref rb, .int (nI pl), .int (nI j)] : List Value).toArray below meth c s.heap [] 0 0 (MQ below (vp_Sl (fun r => r = deF ww j pl 0 (ww pl j))) ([.ref rb, .int (nI pl), .int (nI j)] : List Value).toArray s 0 0 (fun _ => False)) (F0 m 10 ls []) := by
    intro k
    induction k with
    | zero =>
      intro q left ls hik hres hl
      refine lv_iload hx hb d_Rb_decidedAt_10 (lv_at hl 4 rfl) ?_
      refine lv_iload_n hx hb d_Rb_decidedAt_12 rfl (lv_at hl 1 rfl) ?_
      refine lv_icmp_ge (tgt := 42) hx hb d_Rb_decidedAt_13 (by decide) (fun _ => ?_) (fun c9 => absurd (nI_le (by omega) (by omega)) c9)
      refine lv_lload_n hx hb d_Rb_decidedAt_42 rfl (lv_at hl 3 rfl) ?_
      exact W.lret (v := left) hx hb hr (fun t9 h9t h9W => ⟨_, rfl, by rw [hres]; rfl, h9t⟩) (fun _ h => nomatch h) d_Rb_decidedAt_43
    | succ k ih =>
      intro q left ls hik hres hl
      refine lv_iload hx hb d_Rb_decidedAt_10 (lv_at hl 4 rfl) ?_
      refine lv_iload_n hx hb d_Rb_decidedAt_12 rfl (lv_at hl 1 rfl) ?_
      refine lv_icmp_ge (tgt := 42) hx hb d_Rb_decidedAt_13 (by decide) (fun c9 => absurd c9 (nI_ge (by omega) (by omega))) (fun _ => ?_)
      refine lv_lload_n hx hb d_Rb_decidedAt_16 rfl (lv_at hl 3 rfl) ?_
      refine lv_lconst (v := 0) hx hb d_Rb_decidedAt_17 (by decide) ?_
      refine W.lcmp hx hb d_Rb_decidedAt_18 ?_
      by_cases hz : left = 0
      · refine lv_if_eq (tgt := 42) hx hb d_Rb_decidedAt_19 (by decide) (fun _ => ?_) (fun c9 => absurd ((lg_cmp_eq _ _).mpr hz) c9)
        refine lv_lload_n hx hb d_Rb_decidedAt_42 rfl (lv_at hl 3 rfl) ?_
        exact W.lret (v := left) hx hb hr (fun t9 h9t h9W => ⟨_, rfl, by rw [hres]; exact (if_pos hz).symm, h9t⟩) (fun _ h => nomatch h) d_Rb_decidedAt_43
      · refine lv_if_eq (tgt := 42) hx hb d_Rb_decidedAt_19 (by decide) (fun c9 => absurd c9 (fun z => hz ((lg_cmp_eq _ _).mp z))) (fun _ => ?_)
        refine lv_lload_n hx hb d_Rb_decidedAt_22 rfl (lv_at hl 3 rfl) ?_
        refine lv_aload_n hx hb d_Rb_decidedAt_23 rfl (lv_at hl 0 rfl) ?_
        refine lv_iload hx hb d_Rb_decidedAt_24 (lv_at hl 4 rfl) ?_
        refine lv_iload_n hx hb d_Rb_decidedAt_26 rfl (lv_at hl 2 rfl) ?_
        refine vp_callSl (va_Run.run (va_runV (As := [.int (nI q), .int (nI j)]) (rest := [.long left]) ⟨hx, hb, hml, hown, hA⟩ (c_Rb_wordAt l G L f hB q j (by omega) hj) ⟨callB_of 2 hA (gAW kw_61) rfl rfl rfl (hA _ kw_48) (hA _ kw_62) (by decide +kernel) ⟨Nat.le_of_ble_eq_true rfl, Nat.le_of_ble_eq_true rfl⟩, (hA _ kw_63), (hA _ kw_64)⟩ (pw_preV (ci := 3) hP hK hB.2.1 rfl) rfl rfl hl.1 rfl (lv_room (Nat.le_of_ble_eq_true rfl)) d_Rb_decidedAt_27 ⟨Nat.zero_le _, Nat.zero_le _⟩)) (fun r_3 e_4 => ?_)
        subst e_4
        refine lv_ldc2 (v := (-1)) hx hb hown (hA _ kw_60) d_Rb_decidedAt_30 ?_
        refine lv_lxor hx hb d_Rb_decidedAt_33 ?_
        refine lv_land hx hb d_Rb_decidedAt_34 ?_
        refine lv_lstore_n (lv' := [(3, .long (left &&& ((ww q j) ^^^ (-1)))), (0, .ref rb), (1, .int (nI pl)), (2, .int (nI j)), (5, .int (nI q))]) hx hb d_Rb_decidedAt_35 rfl hl (by decide) rfl (fun ls hl => ?_)
        refine lv_iinc (v := nI (q + 1)) (lv' := [(5, .int (nI (q + 1))), (3, .long (left &&& ((ww q j) ^^^ (-1)))), (0, .ref rb), (1, .int (nI pl)), (2, .int (nI j))]) hx hb d_Rb_decidedAt_36 hl (k := 4) rfl (nI_1 q) (by decide) rfl (fun ls hl => ?_)
        refine lv_goto (tgt := 10) hx hb d_Rb_decidedAt_39 (by decide) ?_
        exact ih (q + 1) (left &&& (ww q j ^^^ (-1))) ls (by omega) (hres.trans (if_neg hz)) (lv_sub hl [2, 3, 4, 1, 0] rfl)
  exact loop (pl - 0) 0 (ww pl j) ls (by omega) rfl (lv_sub hl [2, 3, 4, 1, 0] rfl)

set_option maxHeartbeats 4000000 in
set_option maxRecDepth 100000 in
/-- turnedAt -/
theorem c_Rb_tuF (l : Launch) (G : GG) (L : List Nat) (f : Nat → va_E) {rb rA n : Nat} {rad ca wa rk nu : Nat → Nat} {dn : Nat → Bool} {ww : Nat → Nat → Int64} (hB : RuB G L f rb rA n rad ca wa rk nu dn ww) (pl j : Nat) (hp_ : pl < n) (hj : j < 96) : Met l y_Rb_turnedAt (.code y_Rb_turnedAt b_Rb_turnedAt 8 (some .long) :: AW) (RM 5) (va_Pc [.ref rb, .int (nI pl), .int (nI j)] (PW G L f)) (vp_Sl (fun r => r = tuF ww dn n pl j)) 0 0 (fun _ => False) := by
  refine Met.ofW (cc := b_Rb_turnedAt) (maxL := 8) (ret := (some .long)) (by decide) rfl ?_
  intro p e s m args below meth c s₁ B hml hv
  obtain ⟨rfl, hP, hK⟩ := hv
  have hx := B.exec
  have hb := B.bytes
  have hr := B.returns
  have hA : ∀ w ∈ AW, w.before _ s = true := fun w h => atoms_spec (ws := (.code y_Rb_turnedAt b_Rb_turnedAt 8 (some .long) :: AW)) B.pre w (List.mem_cons_of_mem _ h)
  have hown : s.vm.findClass R_Rb = some m.cls := findClass_of_methodNamed B.named
  have hlocks := B.notSynchronized
  have hl := lv_entry ([.ref rb, .int (nI pl), .int (nI j)]) (n := 8) (Nat.le_of_ble_eq_true rfl)
  rw [lg_entry_eq]
  generalize (lg_sl ([.ref rb, .int (nI pl), .int (nI j)]) ++ List.replicate (8 - (lg_sl ([.ref rb, .int (nI pl), .int (nI j)])).length) Slot.unset).toArray = ls at hl ⊢
  have hl : lv_has ls 8 [(0, .ref rb), (1, .int (nI pl)), (2, .int (nI j))] := hl
  have hn := hB.1
  obtain ⟨hrk, hnu, hru, ⟨k0, k1, k2, k3, hco⟩, hwa⟩ := hB.2.2.2 pl hp_
  refine lv_aload_n hx hb d_Rb_turnedAt_0 rfl (lv_at hl 0 rfl) ?_
  refine lv_iload_n hx hb d_Rb_turnedAt_1 rfl (lv_at hl 1 rfl) ?_
  refine va_csq (va_Run.run (va_runV (As := [.int (nI pl)]) (rest := []) ⟨hx, hb, hml, hown, hA⟩ (c_Rb_at l G L f hB.2.1 hB.2.2.1 (nI pl)) ⟨callB_of 1 hA (gAW kw_47) rfl rfl rfl (hA _ kw_48) (hA _ kw_49) (by decide +kernel) ⟨Nat.le_of_ble_eq_true rfl, Nat.le_of_ble_eq_true rfl⟩, (hA _ kw_50), (hA _ kw_51)⟩ (pw_preV (ci := 3) hP hK hB.2.1 rfl) rfl rfl hl.1 rfl (lv_room (Nat.le_of_ble_eq_true rfl)) d_Rb_turnedAt_2 ⟨Nat.zero_le _, Nat.zero_le _⟩)) (fun r_1 e_2 => ?_)
  subst e_2
  refine xv_R (a := rad pl) (oAt_t (by decide) hn hp_) ?_
  refine lv_astore_n (lv' := [(3, .ref (rad pl)), (0, .ref rb), (1, .int (nI pl)), (2, .int (nI j))]) hx hb d_Rb_turnedAt_5 rfl hl (by decide) rfl (fun ls hl => ?_)
  refine lv_aload_n hx hb d_Rb_turnedAt_6 rfl (lv_at hl 0 rfl) ?_
  refine lv_ifnonnull (tgt := 12) hx hb d_Rb_turnedAt_7 (by decide) ?_
  refine lv_aload_n hx hb d_Rb_turnedAt_12 rfl (lv_at hl 1 rfl) ?_
  refine lv_iload_n hx hb d_Rb_turnedAt_13 rfl (lv_at hl 2 rfl) ?_
  refine lv_iload_n hx hb d_Rb_turnedAt_14 rfl (lv_at hl 3 rfl) ?_
  refine vp_callSl (va_Run.run (va_runV (As := [.int (nI pl), .int (nI j)]) (rest := []) ⟨hx, hb, hml, hown, hA⟩ (c_Rb_deF l G L f hB pl j hp_ hj) ⟨callB_of 2 hA (gAW kw_65) rfl rfl rfl (hA _ kw_48) (hA _ kw_66) (by decide +kernel) ⟨Nat.le_of_ble_eq_true rfl, Nat.le_of_ble_eq_true rfl⟩, (hA _ kw_67), (hA _ kw_68)⟩ (pw_preV (ci := 3) hP hK hB.2.1 rfl) rfl rfl hl.1 rfl (lv_room (Nat.le_of_ble_eq_true rfl)) d_Rb_turnedAt_15 ⟨Nat.zero_le _, Nat.zero_le _⟩)) (fun r_3 e_4 => ?_)
  subst e_4
  refine lv_lstore (lv' := [(4, .long (deF ww j pl 0 (ww pl j))), (3, .ref (rad pl)), (0, .ref rb), (1, .int (nI pl)), (2, .int (nI j))]) hx hb d_Rb_turnedAt_18 hl (by decide) rfl (fun ls hl => ?_)
  refine lv_aload_n hx hb d_Rb_turnedAt_20 rfl (lv_at hl 2 rfl) ?_
  refine lv_iload_n hx hb d_Rb_turnedAt_21 rfl (lv_at hl 3 rfl) ?_
  refine lv_iconst (v := nI 1) hx hb d_Rb_turnedAt_22 (by decide) ?_
  refine lv_iadd hx hb d_Rb_turnedAt_23 ?_
  refine xv_I (y := nI (pl + 1)) (nI_1 pl) ?_
  refine lv_lload hx hb d_Rb_turnedAt_24 (lv_at hl 0 rfl) ?_
  refine lv_iload_n hx hb d_Rb_turnedAt_26 rfl (lv_at hl 4 rfl) ?_
  refine vp_callSl (va_Run.run (va_runV (As := [.int (nI (pl + 1)), .long (deF ww j pl 0 (ww pl j)), .int (nI j)]) (rest := []) ⟨hx, hb, hml, hown, hA⟩ (c_Rb_alF l G L f hB (n - (pl + 1)) (pl + 1) (deF ww j pl 0 (ww pl j)) j (by omega) hj) ⟨callB_of 3 hA (gAW kw_69) rfl rfl rfl (hA _ kw_48) (hA _ kw_70) (by decide +kernel) ⟨Nat.le_of_ble_eq_true rfl, Nat.le_of_ble_eq_true rfl⟩, (hA _ kw_71), (hA _ kw_72)⟩ (pw_preV (ci := 3) hP hK hB.2.1 rfl) rfl rfl hl.1 rfl (lv_room (Nat.le_of_ble_eq_true rfl)) d_Rb_turnedAt_27 ⟨Nat.zero_le _, Nat.zero_le _⟩)) (fun r_5 e_6 => ?_)
  subst e_6
  refine lv_lstore (lv' := [(6, .long (alF ww dn j (n - (pl + 1)) (pl + 1) (deF ww j pl 0 (ww pl j)) 0)), (4, .long (deF ww j pl 0 (ww pl j))), (3, .ref (rad pl)), (0, .ref rb), (1, .int (nI pl)), (2, .int (nI j))]) hx hb d_Rb_turnedAt_30 hl (by decide) rfl (fun ls hl => ?_)
  refine lv_aload_n hx hb d_Rb_turnedAt_32 rfl (lv_at hl 2 rfl) ?_
  refine va_getN (D := G.1) (ci := 2) (v := .int (bI (dn pl))) (C := R_Ru) (T := T_Ru) (N := 4) hx hb hA in_Ru hown hK.1 (pl_o hP hru) 0 rfl rfl 1 (by decide) (va_Nw.use rfl (hK.2.1 _ kz_13)) (fun _ h9 => h9) rfl d_Rb_turnedAt_33 ?_
  rcases bcase (dn pl) with hd | hd
  · refine lv_if_eq (tgt := 44) hx hb d_Rb_turnedAt_36 (by decide) (fun _ => ?_) (fun c9 => absurd (by rw [hd]; rfl) c9)
    refine lv_lload hx hb d_Rb_turnedAt_44 (lv_at hl 1 rfl) ?_
    refine lv_lload hx hb d_Rb_turnedAt_46 (lv_at hl 0 rfl) ?_
    refine lv_ldc2 (v := (-1)) hx hb hown (hA _ kw_60) d_Rb_turnedAt_48 ?_
    refine lv_lxor hx hb d_Rb_turnedAt_51 ?_
    refine lv_land hx hb d_Rb_turnedAt_52 ?_
    exact W.lret (v := (deF ww j pl 0 (ww pl j)) &&& ((alF ww dn j (n - (pl + 1)) (pl + 1) (deF ww j pl 0 (ww pl j)) 0) ^^^ (-1))) hx hb hr (fun t9 h9t h9W => ⟨_, rfl, by unfold tuF; rw [hd]; rfl, h9t⟩) (fun _ h => nomatch h) d_Rb_turnedAt_53
  · refine lv_if_eq (tgt := 44) hx hb d_Rb_turnedAt_36 (by decide) (fun c9 => absurd c9 (by rw [hd]; decide)) (fun _ => ?_)
    refine lv_lload hx hb d_Rb_turnedAt_39 (lv_at hl 0 rfl) ?_
    refine lv_goto (tgt := 53) hx hb d_Rb_turnedAt_41 (by decide) ?_
    exact W.lret (v := alF ww dn j (n - (pl + 1)) (pl + 1) (deF ww j pl 0 (ww pl j)) 0) hx hb hr (fun t9 h9t h9W => ⟨_, rfl, by unfold tuF; rw [hd]; rfl, h9t⟩) (fun _ h => nomatch h) d_Rb_turnedAt_53

set_option maxHeartbeats 4000000 in
set_option maxRecDepth 100000 in
/-- idleRank -/
theorem c_Rb_idF (l : Launch) (G : GG) (L : List Nat) (f : Nat → va_E) {rb rA n : Nat} {rad ca wa rk nu : Nat → Nat} {dn : Nat → Bool} {ww : Nat → Nat → Int64} (hB : RuB G L f rb rA n rad ca wa rk nu dn ww) (tt_ : Bool) (op : Int64) (j : Nat) (hj : j < 96) : Met l y_Rb_idleRank (.code y_Rb_idleRank b_Rb_idleRank 10 (some .int) :: AW) (RM 3) (va_Pc [.ref rb, .int (bI tt_), .long op, .int (nI j)] (PW G L f)) (vp_Si (fun r => r = nI (idF ww rk dn tt_ j n 0 op 0))) 0 0 (fun _ => False) := by
  refine Met.ofW (cc := b_Rb_idleRank) (maxL := 10) (ret := (some .int)) (by decide) rfl ?_
  intro p e s m args below meth c s₁ B hml hv
  obtain ⟨rfl, hP, hK⟩ := hv
  have hx := B.exec
  have hb := B.bytes
  have hr := B.returns
  have hA : ∀ w ∈ AW, w.before _ s = true := fun w h => atoms_spec (ws := (.code y_Rb_idleRank b_Rb_idleRank 10 (some .int) :: AW)) B.pre w (List.mem_cons_of_mem _ h)
  have hown : s.vm.findClass R_Rb = some m.cls := findClass_of_methodNamed B.named
  have hlocks := B.notSynchronized
  have hl := lv_entry ([.ref rb, .int (bI tt_), .long op, .int (nI j)]) (n := 10) (Nat.le_of_ble_eq_true rfl)
  rw [lg_entry_eq]
  generalize (lg_sl ([.ref rb, .int (bI tt_), .long op, .int (nI j)]) ++ List.replicate (10 - (lg_sl ([.ref rb, .int (bI tt_), .long op, .int (nI j)])).length) Slot.unset).toArray = ls at hl ⊢
  have hl : lv_has ls 10 [(0, .ref rb), (1, .int (bI tt_)), (2, .long op), (4, .int (nI j))] := hl
  have hn := hB.1
  refine lv_lload_n hx hb d_Rb_idleRank_0 rfl (lv_at hl 2 rfl) ?_
  refine lv_lstore (lv' := [(5, .long op), (0, .ref rb), (1, .int (bI tt_)), (2, .long op), (4, .int (nI j))]) hx hb d_Rb_idleRank_1 hl (by decide) rfl (fun ls hl => ?_)
  refine lv_iconst (v := nI 0) hx hb d_Rb_idleRank_3 (by decide) ?_
  refine lv_istore (lv' := [(7, .int (nI 0)), (5, .long op), (0, .ref rb), (1, .int (bI tt_)), (2, .long op), (4, .int (nI j))]) hx hb d_Rb_idleRank_4 hl (by decide) rfl (fun ls hl => ?_)
  refine lv_iconst (v := nI 0) hx hb d_Rb_idleRank_6 (by decide) ?_
  refine lv_istore (lv' := [(8, .int (nI 0)), (7, .int (nI 0)), (5, .long op), (0, .ref rb), (1, .int (bI tt_)), (2, .long op), (4, .int (nI j))]) hx hb d_Rb_idleRank_7 hl (by decide) rfl (fun ls hl => ?_)
  have loop : ∀ (k q : Nat) (left : Int64) (rr : Nat) (ls : Array Slot), q + k = n → idF ww rk dn tt_ j n 0 op 0 = idF ww rk dn tt_ j k q left rr → lv_has ls 10 [(0, .ref rb), (1, .int (bI tt_)), (4, .int (nI j)), (5, .long left), (7, .int (nI rr)), (8, .int (nI q))] → W p l e (headSpec (.code y_Rb_idleRank b_Rb_idleRank 10 (some .int) :: AW) (RM 3)).room s m ([.ref rb, .int (bI tt_), .long op, .int (nI j)] : List Value).toArray below meth c s.heap [] 0 0 (MQ below (vp_Si (fun r => r = nI (idF ww rk dn tt_ j n 0 op 0))) ([.ref rb, .int (bI tt_), .long op, .int (nI j)] : List Value).toArray s 0 0 (fun _ => False)) (F0 m 9 ls []) := by
    intro k
    induction k with
    | zero =>
      intro q left rr ls hik hres hl
      refine lv_iload hx hb d_Rb_idleRank_9 (lv_at hl 5 rfl) ?_
      refine lv_aload_n hx hb d_Rb_idleRank_11 rfl (lv_at hl 0 rfl) ?_
      refine va_get (D := G.1) (ci := 3) (v := .int (nI n)) (C := R_Rb) (T := T_Rb) (N := 2) hx hb hA in_Rb hown hK.1 (pl_o hP hB.2.1) 0 rfl rfl 1 (by decide) (hA _ kw_59) (fun _ h9 => h9) rfl d_Rb_idleRank_12 ?_
      refine lv_icmp_ge (tgt := 68) hx hb d_Rb_idleRank_15 (by decide) (fun _ => ?_) (fun c9 => absurd (nI_le (by omega) (by omega)) c9)
      refine lv_lload hx hb d_Rb_idleRank_68 (lv_at hl 3 rfl) ?_
      refine lv_lconst (v := 0) hx hb d_Rb_idleRank_70 (by decide) ?_
      refine W.lcmp hx hb d_Rb_idleRank_71 ?_
      by_cases hz : left = 0
      · refine lv_if_ne (tgt := 80) hx hb d_Rb_idleRank_72 (by decide) (fun c9 => absurd ((lg_cmp_eq _ _).mpr hz) c9) (fun _ => ?_)
        refine lv_iload hx hb d_Rb_idleRank_75 (lv_at hl 4 rfl) ?_
        refine lv_goto (tgt := 82) hx hb d_Rb_idleRank_77 (by decide) ?_
        exact W.iret (v := nI rr) hx hb hr (fun t9 h9t h9W => ⟨_, rfl, by rw [hres]; exact (congrArg nI (if_pos hz)).symm, h9t⟩) (fun _ h => nomatch h) d_Rb_idleRank_82
      · refine lv_if_ne (tgt := 80) hx hb d_Rb_idleRank_72 (by decide) (fun _ => ?_) (fun c9 => absurd c9 (fun z => hz ((lg_cmp_eq _ _).mp z)))
        refine lv_bipush (v := nI 10) hx hb d_Rb_idleRank_80 (by decide) ?_
        exact W.iret (v := nI 10) hx hb hr (fun t9 h9t h9W => ⟨_, rfl, by rw [hres]; exact (congrArg nI (if_neg hz)).symm, h9t⟩) (fun _ h => nomatch h) d_Rb_idleRank_82
    | succ k ih =>
      intro q left rr ls hik hres hl
      refine lv_iload hx hb d_Rb_idleRank_9 (lv_at hl 5 rfl) ?_
      refine lv_aload_n hx hb d_Rb_idleRank_11 rfl (lv_at hl 0 rfl) ?_
      refine va_get (D := G.1) (ci := 3) (v := .int (nI n)) (C := R_Rb) (T := T_Rb) (N := 2) hx hb hA in_Rb hown hK.1 (pl_o hP hB.2.1) 0 rfl rfl 1 (by decide) (hA _ kw_59) (fun _ h9 => h9) rfl d_Rb_idleRank_12 ?_
      refine lv_icmp_ge (tgt := 68) hx hb d_Rb_idleRank_15 (by decide) (fun c9 => absurd c9 (nI_ge (by omega) (by omega))) (fun _ => ?_)
      refine lv_lload hx hb d_Rb_idleRank_18 (lv_at hl 3 rfl) ?_
      refine lv_lconst (v := 0) hx hb d_Rb_idleRank_20 (by decide) ?_
      refine W.lcmp hx hb d_Rb_idleRank_21 ?_
      by_cases hz : left = 0
      · refine lv_if_eq (tgt := 68) hx hb d_Rb_idleRank_22 (by decide) (fun _ => ?_) (fun c9 => absurd ((lg_cmp_eq _ _).mpr hz) c9)
        refine lv_lload hx hb d_Rb_idleRank_68 (lv_at hl 3 rfl) ?_
        refine lv_lconst (v := 0) hx hb d_Rb_idleRank_70 (by decide) ?_
        refine W.lcmp hx hb d_Rb_idleRank_71 ?_
        refine lv_if_ne (tgt := 80) hx hb d_Rb_idleRank_72 (by decide) (fun c9 => absurd ((lg_cmp_eq _ _).mpr hz) c9) (fun _ => ?_)
        refine lv_iload hx hb d_Rb_idleRank_75 (lv_at hl 4 rfl) ?_
        refine lv_goto (tgt := 82) hx hb d_Rb_idleRank_77 (by decide) ?_
        exact W.iret (v := nI rr) hx hb hr (fun t9 h9t h9W => ⟨_, rfl, by rw [hres]; exact (congrArg nI (if_pos hz)).symm, h9t⟩) (fun _ h => nomatch h) d_Rb_idleRank_82
      · refine lv_if_eq (tgt := 68) hx hb d_Rb_idleRank_22 (by decide) (fun c9 => absurd c9 (fun z => hz ((lg_cmp_eq _ _).mp z))) (fun _ => ?_)
        have hq : q < n := by omega
        obtain ⟨hrk, hnu, hru, ⟨k0, k1, k2, k3, hco⟩, hwa⟩ := hB.2.2.2 q hq
        refine lv_aload_n hx hb d_Rb_idleRank_25 rfl (lv_at hl 0 rfl) ?_
        refine lv_iload hx hb d_Rb_idleRank_26 (lv_at hl 5 rfl) ?_
        refine va_csq (va_Run.run (va_runV (As := [.int (nI q)]) (rest := []) ⟨hx, hb, hml, hown, hA⟩ (c_Rb_at l G L f hB.2.1 hB.2.2.1 (nI q)) ⟨callB_of 1 hA (gAW kw_47) rfl rfl rfl (hA _ kw_48) (hA _ kw_49) (by decide +kernel) ⟨Nat.le_of_ble_eq_true rfl, Nat.le_of_ble_eq_true rfl⟩, (hA _ kw_50), (hA _ kw_51)⟩ (pw_preV (ci := 3) hP hK hB.2.1 rfl) rfl rfl hl.1 rfl (lv_room (Nat.le_of_ble_eq_true rfl)) d_Rb_idleRank_28 ⟨Nat.zero_le _, Nat.zero_le _⟩)) (fun r_1 e_2 => ?_)
        subst e_2
        refine xv_R (a := rad q) (oAt_t (by decide) hn hq) ?_
        refine lv_astore (lv' := [(9, .ref (rad q)), (0, .ref rb), (1, .int (bI tt_)), (4, .int (nI j)), (5, .long left), (7, .int (nI rr)), (8, .int (nI q))]) hx hb d_Rb_idleRank_31 hl (by decide) rfl (fun ls hl => ?_)
        refine lv_aload hx hb d_Rb_idleRank_33 (lv_at hl 0 rfl) ?_
        refine lv_ifnull hx hb d_Rb_idleRank_35 ?_
        refine lv_aload hx hb d_Rb_idleRank_38 (lv_at hl 0 rfl) ?_
        refine lv_iload_n hx hb d_Rb_idleRank_40 rfl (lv_at hl 2 rfl) ?_
        refine vp_callSi (va_Run.run (va_runVN (As := [.int (bI tt_)]) (rest := []) ⟨hx, hb, hml, hown, hA⟩ (c_Ru_rkb l G L f hru tt_) ⟨va_cnB 1 hA (gAW kw_73) rfl rfl rfl (hK.2.1 _ kz_14) (hA _ kw_53) (by decide +kernel) ⟨Nat.le_of_ble_eq_true rfl, Nat.le_of_ble_eq_true rfl⟩, (hA _ kw_74), (hA _ kw_75)⟩ (pw_preV (ci := 2) hP hK hru rfl) rfl rfl hl.1 rfl (lv_room (Nat.le_of_ble_eq_true rfl)) d_Rb_idleRank_41 ⟨Nat.zero_le _, Nat.zero_le _⟩)) (fun r_3 e_4 => ?_)
        subst e_4
        refine lv_istore (lv' := [(7, .int (nI (rkB (rk q) (dn q) tt_))), (9, .ref (rad q)), (0, .ref rb), (1, .int (bI tt_)), (4, .int (nI j)), (5, .long left), (8, .int (nI q))]) hx hb d_Rb_idleRank_44 hl (by decide) rfl (fun ls hl => ?_)
        refine lv_lload hx hb d_Rb_idleRank_46 (lv_at hl 5 rfl) ?_
        refine lv_aload hx hb d_Rb_idleRank_48 (lv_at hl 1 rfl) ?_
        refine lv_iload hx hb d_Rb_idleRank_50 (lv_at hl 4 rfl) ?_
        refine vp_callSl (va_Run.run (va_runVN (As := [.int (nI j)]) (rest := [.long left]) ⟨hx, hb, hml, hown, hA⟩ (c_Ru_word l G L f hco hwa hru j hj) ⟨va_cnB 1 hA (gAW kw_52) rfl rfl rfl (hK.2.1 _ kz_10) (hA _ kw_53) (by decide +kernel) ⟨Nat.le_of_ble_eq_true rfl, Nat.le_of_ble_eq_true rfl⟩, (hA _ kw_54), (hA _ kw_55)⟩ (pw_preV (ci := 2) hP hK hru rfl) rfl rfl hl.1 rfl (lv_room (Nat.le_of_ble_eq_true rfl)) d_Rb_idleRank_52 ⟨Nat.zero_le _, Nat.zero_le _⟩)) (fun r_5 e_6 => ?_)
        subst e_6
        refine lv_ldc2 (v := (-1)) hx hb hown (hA _ kw_60) d_Rb_idleRank_55 ?_
        refine lv_lxor hx hb d_Rb_idleRank_58 ?_
        refine lv_land hx hb d_Rb_idleRank_59 ?_
        refine lv_lstore (lv' := [(5, .long (left &&& ((ww q j) ^^^ (-1)))), (7, .int (nI (rkB (rk q) (dn q) tt_))), (9, .ref (rad q)), (0, .ref rb), (1, .int (bI tt_)), (4, .int (nI j)), (8, .int (nI q))]) hx hb d_Rb_idleRank_60 hl (by decide) rfl (fun ls hl => ?_)
        refine lv_iinc (v := nI (q + 1)) (lv' := [(8, .int (nI (q + 1))), (5, .long (left &&& ((ww q j) ^^^ (-1)))), (7, .int (nI (rkB (rk q) (dn q) tt_))), (9, .ref (rad q)), (0, .ref rb), (1, .int (bI tt_)), (4, .int (nI j))]) hx hb d_Rb_idleRank_62 hl (k := 6) rfl (nI_1 q) (by decide) rfl (fun ls hl => ?_)
        refine lv_goto (tgt := 9) hx hb d_Rb_idleRank_65 (by decide) ?_
        exact ih (q + 1) (left &&& (ww q j ^^^ (-1))) (rkB (rk q) (dn q) tt_) ls (by omega) (hres.trans (if_neg hz)) (lv_sub hl [4, 5, 6, 1, 2, 0] rfl)
  exact loop (n - 0) 0 op 0 ls (by omega) rfl (lv_sub hl [3, 4, 6, 2, 1, 0] rfl)
end
section
set_option maxHeartbeats 4000000 in
set_option maxRecDepth 100000 in
/-- bitPlace -/
theorem c_De_bp (l : Launch) (G : GG) (L : List Nat) (f : Nat → va_E) (x : Int64) (kk : Nat) (hk : kk ≤ 64) : Met l y_De_bitPlace (.code y_De_bitPlace b_De_bitPlace 7 (some .int) :: AW) (RM 1) (va_Pc [.long x, .int (nI kk)] (PW G L f)) (vp_Si (fun r => r = nI (bpos x kk))) 0 0 (fun _ => False) := by
  refine Met.ofW (cc := b_De_bitPlace) (maxL := 7) (ret := (some .int)) (by decide) rfl ?_
  intro p e s m args below meth c s₁ B hml hv
  obtain ⟨rfl, hP, hK⟩ := hv
  have hx := B.exec
  have hb := B.bytes
  have hr := B.returns
  have hA : ∀ w ∈ AW, w.before _ s = true := fun w h => atoms_spec (ws := (.code y_De_bitPlace b_De_bitPlace 7 (some .int) :: AW)) B.pre w (List.mem_cons_of_mem _ h)
  have hown : s.vm.findClass R_De = some m.cls := findClass_of_methodNamed B.named
  have hlocks := B.notSynchronized
  have hl := lv_entry ([.long x, .int (nI kk)]) (n := 7) (Nat.le_of_ble_eq_true rfl)
  rw [lg_entry_eq]
  generalize (lg_sl ([.long x, .int (nI kk)]) ++ List.replicate (7 - (lg_sl ([.long x, .int (nI kk)])).length) Slot.unset).toArray = ls at hl ⊢
  have hl : lv_has ls 7 [(0, .long x), (2, .int (nI kk))] := hl
  refine lv_lload_n hx hb d_De_bitPlace_0 rfl (lv_at hl 0 rfl) ?_
  refine lv_lstore_n (lv' := [(3, .long x), (0, .long x), (2, .int (nI kk))]) hx hb d_De_bitPlace_1 rfl hl (by decide) rfl (fun ls hl => ?_)
  refine lv_iconst (v := nI 0) hx hb d_De_bitPlace_2 (by decide) ?_
  refine lv_istore (lv' := [(5, .int (nI 0)), (3, .long x), (0, .long x), (2, .int (nI kk))]) hx hb d_De_bitPlace_3 hl (by decide) rfl (fun ls hl => ?_)
  have loop : ∀ (k i : Nat) (ls : Array Slot), i + k = kk → lv_has ls 7 [(2, .int (nI kk)), (3, .long (clr x i)), (5, .int (nI i))] → W p l e (headSpec (.code y_De_bitPlace b_De_bitPlace 7 (some .int) :: AW) (RM 1)).room s m ([.long x, .int (nI kk)] : List Value).toArray below meth c s.heap [] 0 0 (MQ below (vp_Si (fun r => r = nI (bpos x kk))) ([.long x, .int (nI kk)] : List Value).toArray s 0 0 (fun _ => False)) (F0 m 5 ls []) := by
    intro k
    induction k with
    | zero =>
      intro i  ls hik  hl
      have e9 : i = kk := by omega
      refine lv_iload hx hb d_De_bitPlace_5 (lv_at hl 2 rfl) ?_
      refine lv_iload_n hx hb d_De_bitPlace_7 rfl (lv_at hl 0 rfl) ?_
      refine lv_icmp_ge (tgt := 23) hx hb d_De_bitPlace_8 (by decide) (fun _ => ?_) (fun c9 => absurd (nI_le (by omega) (by omega)) c9)
      refine lv_lload_n hx hb d_De_bitPlace_23 rfl (lv_at hl 1 rfl) ?_
      refine lv_lload_n hx hb d_De_bitPlace_24 rfl (lv_at hl 1 rfl) ?_
      refine lv_lneg hx hb d_De_bitPlace_25 ?_
      refine lv_land hx hb d_De_bitPlace_26 ?_
      refine lv_lstore (lv' := [(5, .long ((clr x i) &&& (-(clr x i)))), (2, .int (nI kk)), (3, .long (clr x i))]) hx hb d_De_bitPlace_27 hl (by decide) rfl (fun ls hl => ?_)
      refine lv_lload hx hb d_De_bitPlace_29 (lv_at hl 0 rfl) ?_
      refine lv_lconst (v := 1) hx hb d_De_bitPlace_31 (by decide) ?_
      refine lv_lsub hx hb d_De_bitPlace_32 ?_
      refine vp_callSi (va_Run.run (va_runS (As := [.long (((clr x i) &&& (-(clr x i))) - 1)]) (rest := []) ⟨hx, hb, hml, hown, hA⟩ (c_bitCount l G L f (((clr x i) &&& (-(clr x i))) - 1)) ⟨callB_of 1 hA (gAW kw_76) rfl rfl rfl (hA _ kw_77) (hA _ kw_78) (by decide +kernel) ⟨Nat.le_of_ble_eq_true rfl, Nat.le_of_ble_eq_true rfl⟩, (hA _ kw_79)⟩ (pw_preS hP hK) rfl rfl hl.1 rfl (lv_room (Nat.le_of_ble_eq_true rfl)) d_De_bitPlace_33 ⟨Nat.zero_le _, Nat.zero_le _⟩)) (fun r_1 e_2 => ?_)
      subst e_2
      exact W.iret (v := nI (pop (((clr x i) &&& (-(clr x i))) - 1))) hx hb hr (fun t9 h9t h9W => ⟨_, rfl, by subst e9; rfl, h9t⟩) (fun _ h => nomatch h) d_De_bitPlace_36
    | succ k ih =>
      intro i  ls hik  hl
      refine lv_iload hx hb d_De_bitPlace_5 (lv_at hl 2 rfl) ?_
      refine lv_iload_n hx hb d_De_bitPlace_7 rfl (lv_at hl 0 rfl) ?_
      refine lv_icmp_ge (tgt := 23) hx hb d_De_bitPlace_8 (by decide) (fun c9 => absurd c9 (nI_ge (by omega) (by omega))) (fun _ => ?_)
      refine lv_lload_n hx hb d_De_bitPlace_11 rfl (lv_at hl 1 rfl) ?_
      refine lv_lload_n hx hb d_De_bitPlace_12 rfl (lv_at hl 1 rfl) ?_
      refine lv_lconst (v := 1) hx hb d_De_bitPlace_13 (by decide) ?_
      refine lv_lsub hx hb d_De_bitPlace_14 ?_
      refine lv_land hx hb d_De_bitPlace_15 ?_
      refine xv_J (y := clr x (i + 1)) rfl ?_
      refine lv_lstore_n (lv' := [(3, .long (clr x (i + 1))), (2, .int (nI kk)), (5, .int (nI i))]) hx hb d_De_bitPlace_16 rfl hl (by decide) rfl (fun ls hl => ?_)
      refine lv_iinc (v := nI (i + 1)) (lv' := [(5, .int (nI (i + 1))), (3, .long (clr x (i + 1))), (2, .int (nI kk))]) hx hb d_De_bitPlace_17 hl (k := 2) rfl (nI_1 i) (by decide) rfl (fun ls hl => ?_)
      refine lv_goto (tgt := 5) hx hb d_De_bitPlace_20 (by decide) ?_
      exact ih (i + 1)  ls (by omega)  (lv_sub hl [2, 1, 0] rfl)
  exact loop (kk - 0) 0  ls (by omega)  (lv_sub hl [3, 1, 0] rfl)

set_option maxHeartbeats 4000000 in
set_option maxRecDepth 100000 in
/-- conditions -/
theorem c_De_conditions (l : Launch) (G : GG) (L : List Nat) (f : Nat → va_E) {x0 cb rb : Nat} (hx0 : Lk L f x0 (.inr (4, [.ref cb, .ref rb]))) {mA gA cn : Nat} {ad wa kd : Nat → Nat} {ka kb kc : Nat → Int32} {wd : Nat → Nat → Int64} {mm : Nat → Bool} (hC : CoB G L f cb mA gA cn ad wa kd ka kb kc wd mm) : Met l y_De_conditions (.code y_De_conditions b_De_conditions 1 (some .int) :: AW) (RM 0) (va_Pc [.ref x0] (PW G L f)) (vp_Si (fun r => r = nI cn)) 0 0 (fun _ => False) := by
  refine Met.ofW (cc := b_De_conditions) (maxL := 1) (ret := (some .int)) (by decide) rfl ?_
  intro p e s m args below meth c s₁ B hml hv
  obtain ⟨rfl, hP, hK⟩ := hv
  have hx := B.exec
  have hb := B.bytes
  have hr := B.returns
  have hA : ∀ w ∈ AW, w.before _ s = true := fun w h => atoms_spec (ws := (.code y_De_conditions b_De_conditions 1 (some .int) :: AW)) B.pre w (List.mem_cons_of_mem _ h)
  have hown : s.vm.findClass R_De = some m.cls := findClass_of_methodNamed B.named
  have hlocks := B.notSynchronized
  have hl := lv_entry ([.ref x0]) (n := 1) (Nat.le_of_ble_eq_true rfl)
  rw [lg_entry_eq]
  generalize (lg_sl ([.ref x0]) ++ List.replicate (1 - (lg_sl ([.ref x0])).length) Slot.unset).toArray = ls at hl ⊢
  have hl : lv_has ls 1 [(0, .ref x0)] := hl
  have hcn := hC.1
  refine lv_aload_n hx hb d_De_conditions_0 rfl (lv_at hl 0 rfl) ?_
  refine va_get (D := G.1) (ci := 4) (v := .ref cb) (C := R_De) (T := T_De) (N := 2) hx hb hA in_De hown hK.1 (pl_o hP hx0) 0 rfl rfl 0 (by decide) (hA _ kw_80) (fun _ h9 => h9) rfl d_De_conditions_1 ?_
  refine va_getN (D := G.1) (ci := 1) (v := .int (nI cn)) (C := R_Cb) (T := T_Cb) (N := 3) hx hb hA in_Cb hown hK.1 (pl_o hP hC.2.1) 0 rfl rfl 2 (by decide) (va_Nw.use rfl (hK.2.1 _ kz_15)) (fun _ h9 => h9) rfl d_De_conditions_4 ?_
  exact W.iret (v := nI cn) hx hb hr (fun t9 h9t h9W => ⟨_, rfl, rfl, h9t⟩) (fun _ h => nomatch h) d_De_conditions_7

set_option maxHeartbeats 4000000 in
set_option maxRecDepth 100000 in
/-- rules -/
theorem c_De_rules (l : Launch) (G : GG) (L : List Nat) (f : Nat → va_E) {x0 cb rb : Nat} (hx0 : Lk L f x0 (.inr (4, [.ref cb, .ref rb]))) {rA rn : Nat} {rad ca wb rk nu : Nat → Nat} {dn : Nat → Bool} {vw : Nat → Nat → Int64} (hB : RuB G L f rb rA rn rad ca wb rk nu dn vw) : Met l y_De_rules (.code y_De_rules b_De_rules 1 (some .int) :: AW) (RM 0) (va_Pc [.ref x0] (PW G L f)) (vp_Si (fun r => r = nI rn)) 0 0 (fun _ => False) := by
  refine Met.ofW (cc := b_De_rules) (maxL := 1) (ret := (some .int)) (by decide) rfl ?_
  intro p e s m args below meth c s₁ B hml hv
  obtain ⟨rfl, hP, hK⟩ := hv
  have hx := B.exec
  have hb := B.bytes
  have hr := B.returns
  have hA : ∀ w ∈ AW, w.before _ s = true := fun w h => atoms_spec (ws := (.code y_De_rules b_De_rules 1 (some .int) :: AW)) B.pre w (List.mem_cons_of_mem _ h)
  have hown : s.vm.findClass R_De = some m.cls := findClass_of_methodNamed B.named
  have hlocks := B.notSynchronized
  have hl := lv_entry ([.ref x0]) (n := 1) (Nat.le_of_ble_eq_true rfl)
  rw [lg_entry_eq]
  generalize (lg_sl ([.ref x0]) ++ List.replicate (1 - (lg_sl ([.ref x0])).length) Slot.unset).toArray = ls at hl ⊢
  have hl : lv_has ls 1 [(0, .ref x0)] := hl
  have hrn := hB.1
  refine lv_aload_n hx hb d_De_rules_0 rfl (lv_at hl 0 rfl) ?_
  refine va_get (D := G.1) (ci := 4) (v := .ref rb) (C := R_De) (T := T_De) (N := 2) hx hb hA in_De hown hK.1 (pl_o hP hx0) 0 rfl rfl 1 (by decide) (hA _ kw_81) (fun _ h9 => h9) rfl d_De_rules_1 ?_
  refine va_getN (D := G.1) (ci := 3) (v := .int (nI rn)) (C := R_Rb) (T := T_Rb) (N := 2) hx hb hA in_Rb hown hK.1 (pl_o hP hB.2.1) 0 rfl rfl 1 (by decide) (va_Nw.use rfl (hK.2.1 _ kz_16)) (fun _ h9 => h9) rfl d_De_rules_4 ?_
  exact W.iret (v := nI rn) hx hb hr (fun t9 h9t h9W => ⟨_, rfl, rfl, h9t⟩) (fun _ h => nomatch h) d_De_rules_7

set_option maxHeartbeats 4000000 in
set_option maxRecDepth 100000 in
/-- allowedIn -/
theorem c_De_alIn (l : Launch) (G : GG) (L : List Nat) (f : Nat → va_E) {x0 cb rb : Nat} (hx0 : Lk L f x0 (.inr (4, [.ref cb, .ref rb]))) {rA rn : Nat} {rad ca wb rk nu : Nat → Nat} {dn : Nat → Bool} {vw : Nat → Nat → Int64} (hB : RuB G L f rb rA rn rad ca wb rk nu dn vw) (j : Nat) (hj : j < 96) : Met l y_De_allowedIn (.code y_De_allowedIn b_De_allowedIn 2 (some .long) :: AW) (RM 4) (va_Pc [.ref x0, .int (nI j)] (PW G L f)) (vp_Sl (fun r => r = alF vw dn j rn 0 (-1) 0)) 0 0 (fun _ => False) := by
  refine Met.ofW (cc := b_De_allowedIn) (maxL := 2) (ret := (some .long)) (by decide) rfl ?_
  intro p e s m args below meth c s₁ B hml hv
  obtain ⟨rfl, hP, hK⟩ := hv
  have hx := B.exec
  have hb := B.bytes
  have hr := B.returns
  have hA : ∀ w ∈ AW, w.before _ s = true := fun w h => atoms_spec (ws := (.code y_De_allowedIn b_De_allowedIn 2 (some .long) :: AW)) B.pre w (List.mem_cons_of_mem _ h)
  have hown : s.vm.findClass R_De = some m.cls := findClass_of_methodNamed B.named
  have hlocks := B.notSynchronized
  have hl := lv_entry ([.ref x0, .int (nI j)]) (n := 2) (Nat.le_of_ble_eq_true rfl)
  rw [lg_entry_eq]
  generalize (lg_sl ([.ref x0, .int (nI j)]) ++ List.replicate (2 - (lg_sl ([.ref x0, .int (nI j)])).length) Slot.unset).toArray = ls at hl ⊢
  have hl : lv_has ls 2 [(0, .ref x0), (1, .int (nI j))] := hl
  have hrn := hB.1
  refine lv_aload_n hx hb d_De_allowedIn_0 rfl (lv_at hl 0 rfl) ?_
  refine va_get (D := G.1) (ci := 4) (v := .ref rb) (C := R_De) (T := T_De) (N := 2) hx hb hA in_De hown hK.1 (pl_o hP hx0) 0 rfl rfl 1 (by decide) (hA _ kw_81) (fun _ h9 => h9) rfl d_De_allowedIn_1 ?_
  refine lv_iconst (v := nI 0) hx hb d_De_allowedIn_4 (by decide) ?_
  refine lv_ldc2 (v := (-1)) hx hb hown (hA _ kw_82) d_De_allowedIn_5 ?_
  refine lv_iload_n hx hb d_De_allowedIn_8 rfl (lv_at hl 1 rfl) ?_
  refine vp_callSl (va_Run.run (va_runVN (As := [.int (nI 0), .long (-1), .int (nI j)]) (rest := []) ⟨hx, hb, hml, hown, hA⟩ (c_Rb_alF l G L f hB rn 0 (-1) j (by omega) hj) ⟨va_cnB 3 hA (gAW kw_69) rfl rfl rfl (hK.2.1 _ kz_17) (hA _ kw_48) (by decide +kernel) ⟨Nat.le_of_ble_eq_true rfl, Nat.le_of_ble_eq_true rfl⟩, (hA _ kw_71), (hA _ kw_72)⟩ (pw_preV (ci := 3) hP hK hB.2.1 rfl) rfl rfl hl.1 rfl (lv_room (Nat.le_of_ble_eq_true rfl)) d_De_allowedIn_9 ⟨Nat.zero_le _, Nat.zero_le _⟩)) (fun r_1 e_2 => ?_)
  subst e_2
  exact W.lret (v := alF vw dn j rn 0 (-1) 0) hx hb hr (fun t9 h9t h9W => ⟨_, rfl, rfl, h9t⟩) (fun _ h => nomatch h) d_De_allowedIn_12

set_option maxHeartbeats 4000000 in
set_option maxRecDepth 100000 in
/-- allowed -/
theorem c_De_allowed (l : Launch) (G : GG) (L : List Nat) (f : Nat → va_E) {x0 cb rb : Nat} (hx0 : Lk L f x0 (.inr (4, [.ref cb, .ref rb]))) {rA rn : Nat} {rad ca wb rk nu : Nat → Nat} {dn : Nat → Bool} {vw : Nat → Nat → Int64} (hB : RuB G L f rb rA rn rad ca wb rk nu dn vw) : Met l y_De_allowed (.code y_De_allowed b_De_allowed 3 (some .int) :: AW) (RM 5) (va_Pc [.ref x0] (PW G L f)) (vp_Si (fun r => r = nI (sumP (fun j => alF vw dn j rn 0 (-1) 0) 96))) 0 0 (fun _ => False) := by
  refine Met.ofW (cc := b_De_allowed) (maxL := 3) (ret := (some .int)) (by decide) rfl ?_
  intro p e s m args below meth c s₁ B hml hv
  obtain ⟨rfl, hP, hK⟩ := hv
  have hx := B.exec
  have hb := B.bytes
  have hr := B.returns
  have hA : ∀ w ∈ AW, w.before _ s = true := fun w h => atoms_spec (ws := (.code y_De_allowed b_De_allowed 3 (some .int) :: AW)) B.pre w (List.mem_cons_of_mem _ h)
  have hown : s.vm.findClass R_De = some m.cls := findClass_of_methodNamed B.named
  have hlocks := B.notSynchronized
  have hl := lv_entry ([.ref x0]) (n := 3) (Nat.le_of_ble_eq_true rfl)
  rw [lg_entry_eq]
  generalize (lg_sl ([.ref x0]) ++ List.replicate (3 - (lg_sl ([.ref x0])).length) Slot.unset).toArray = ls at hl ⊢
  have hl : lv_has ls 3 [(0, .ref x0)] := hl
  have hrn := hB.1
  refine lv_iconst (v := nI 0) hx hb d_De_allowed_0 (by decide) ?_
  refine lv_istore_n (lv' := [(1, .int (nI 0)), (0, .ref x0)]) hx hb d_De_allowed_1 rfl hl (by decide) rfl (fun ls hl => ?_)
  refine lv_iconst (v := nI 0) hx hb d_De_allowed_2 (by decide) ?_
  refine lv_istore_n (lv' := [(2, .int (nI 0)), (1, .int (nI 0)), (0, .ref x0)]) hx hb d_De_allowed_3 rfl hl (by decide) rfl (fun ls hl => ?_)
  have loop : ∀ (k i : Nat) (ls : Array Slot), i + k = 96 → lv_has ls 3 [(0, .ref x0), (1, .int (nI (sumP (fun j => alF vw dn j rn 0 (-1) 0) i))), (2, .int (nI i))] → W p l e (headSpec (.code y_De_allowed b_De_allowed 3 (some .int) :: AW) (RM 5)).room s m ([.ref x0] : List Value).toArray below meth c s.heap [] 0 0 (MQ below (vp_Si (fun r => r = nI (sumP (fun j => alF vw dn j rn 0 (-1) 0) 96))) ([.ref x0] : List Value).toArray s 0 0 (fun _ => False)) (F0 m 4 ls []) := by
    intro k
    induction k with
    | zero =>
      intro i  ls hik  hl
      refine lv_iload_n hx hb d_De_allowed_4 rfl (lv_at hl 2 rfl) ?_
      refine lv_bipush (v := nI 96) hx hb d_De_allowed_5 (by decide) ?_
      refine lv_icmp_ge (tgt := 27) hx hb d_De_allowed_7 (by decide) (fun _ => ?_) (fun c9 => absurd (nI_le (by omega) (by omega)) c9)
      refine lv_iload_n hx hb d_De_allowed_27 rfl (lv_at hl 1 rfl) ?_
      exact W.iret (v := nI (sumP (fun j => alF vw dn j rn 0 (-1) 0) i)) hx hb hr (fun t9 h9t h9W => ⟨_, rfl, by rw [show i = 96 by omega], h9t⟩) (fun _ h => nomatch h) d_De_allowed_28
    | succ k ih =>
      intro i  ls hik  hl
      refine lv_iload_n hx hb d_De_allowed_4 rfl (lv_at hl 2 rfl) ?_
      refine lv_bipush (v := nI 96) hx hb d_De_allowed_5 (by decide) ?_
      refine lv_icmp_ge (tgt := 27) hx hb d_De_allowed_7 (by decide) (fun c9 => absurd c9 (nI_ge (by omega) (by omega))) (fun _ => ?_)
      refine lv_iload_n hx hb d_De_allowed_10 rfl (lv_at hl 1 rfl) ?_
      refine lv_aload_n hx hb d_De_allowed_11 rfl (lv_at hl 0 rfl) ?_
      refine lv_iload_n hx hb d_De_allowed_12 rfl (lv_at hl 2 rfl) ?_
      refine vp_callSl (va_Run.run (va_runV (As := [.int (nI i)]) (rest := [.int (nI (sumP (fun j => alF vw dn j rn 0 (-1) 0) i))]) ⟨hx, hb, hml, hown, hA⟩ (c_De_alIn l G L f hx0 hB i (by omega)) ⟨callB_of 1 hA (gAW kw_83) rfl rfl rfl (hA _ kw_5) (hA _ kw_84) (by decide +kernel) ⟨Nat.le_of_ble_eq_true rfl, Nat.le_of_ble_eq_true rfl⟩, (hA _ kw_85), (hA _ kw_86)⟩ (pw_preV (ci := 4) hP hK hx0 rfl) rfl rfl hl.1 rfl (lv_room (Nat.le_of_ble_eq_true rfl)) d_De_allowed_13 ⟨Nat.zero_le _, Nat.zero_le _⟩)) (fun r_1 e_2 => ?_)
      subst e_2
      refine vp_callSi (va_Run.run (va_runS (As := [.long (alF vw dn i rn 0 (-1) 0)]) (rest := [.int (nI (sumP (fun j => alF vw dn j rn 0 (-1) 0) i))]) ⟨hx, hb, hml, hown, hA⟩ (c_bitCount l G L f (alF vw dn i rn 0 (-1) 0)) ⟨callB_of 1 hA (gAW kw_76) rfl rfl rfl (hA _ kw_77) (hA _ kw_78) (by decide +kernel) ⟨Nat.le_of_ble_eq_true rfl, Nat.le_of_ble_eq_true rfl⟩, (hA _ kw_79)⟩ (pw_preS hP hK) rfl rfl hl.1 rfl (lv_room (Nat.le_of_ble_eq_true rfl)) d_De_allowed_16 ⟨Nat.zero_le _, Nat.zero_le _⟩)) (fun r_3 e_4 => ?_)
      subst e_4
      refine lv_iadd hx hb d_De_allowed_19 ?_
      refine xv_I (y := nI (sumP (fun j => alF vw dn j rn 0 (-1) 0) (i + 1))) (nI_add _ _) ?_
      refine lv_istore_n (lv' := [(1, .int (nI (sumP (fun j => alF vw dn j rn 0 (-1) 0) (i + 1)))), (0, .ref x0), (2, .int (nI i))]) hx hb d_De_allowed_20 rfl hl (by decide) rfl (fun ls hl => ?_)
      refine lv_iinc (v := nI (i + 1)) (lv' := [(2, .int (nI (i + 1))), (1, .int (nI (sumP (fun j => alF vw dn j rn 0 (-1) 0) (i + 1)))), (0, .ref x0)]) hx hb d_De_allowed_21 hl (k := 2) rfl (nI_1 i) (by decide) rfl (fun ls hl => ?_)
      refine lv_goto (tgt := 4) hx hb d_De_allowed_24 (by decide) ?_
      exact ih (i + 1)  ls (by omega)  (lv_sub hl [2, 1, 0] rfl)
  exact loop (96 - 0) 0  ls (by omega)  (lv_sub hl [2, 1, 0] rfl)

set_option maxHeartbeats 4000000 in
set_option maxRecDepth 100000 in
/-- asks -/
theorem c_De_asks (l : Launch) (G : GG) (L : List Nat) (f : Nat → va_E) {x0 cb rb : Nat} (hx0 : Lk L f x0 (.inr (4, [.ref cb, .ref rb]))) {mA gA cn : Nat} {ad wa kd : Nat → Nat} {ka kb kc : Nat → Int32} {wd : Nat → Nat → Int64} {mm : Nat → Bool} (hC : CoB G L f cb mA gA cn ad wa kd ka kb kc wd mm) (x : Int32) : Met l y_De_asks (.code y_De_asks b_De_asks 5 (some .int) :: AW) (RM 2) (va_Pc [.ref x0, .int x] (PW G L f)) (vp_Si (fun r => r = onR (fun t => nI (sumP (wd t) 96)) (inN cn x))) 0 0 (fun _ => False) := by
  refine Met.ofW (cc := b_De_asks) (maxL := 5) (ret := (some .int)) (by decide) rfl ?_
  intro p e s m args below meth c s₁ B hml hv
  obtain ⟨rfl, hP, hK⟩ := hv
  have hx := B.exec
  have hb := B.bytes
  have hr := B.returns
  have hA : ∀ w ∈ AW, w.before _ s = true := fun w h => atoms_spec (ws := (.code y_De_asks b_De_asks 5 (some .int) :: AW)) B.pre w (List.mem_cons_of_mem _ h)
  have hown : s.vm.findClass R_De = some m.cls := findClass_of_methodNamed B.named
  have hlocks := B.notSynchronized
  have hl := lv_entry ([.ref x0, .int x]) (n := 5) (Nat.le_of_ble_eq_true rfl)
  rw [lg_entry_eq]
  generalize (lg_sl ([.ref x0, .int x]) ++ List.replicate (5 - (lg_sl ([.ref x0, .int x])).length) Slot.unset).toArray = ls at hl ⊢
  have hl : lv_has ls 5 [(0, .ref x0), (1, .int x)] := hl
  have hcn := hC.1
  rcases at60 (ad := ad) hcn x with ⟨t, ht, rfl⟩ | ⟨hnb, hno⟩
  · refine lv_aload_n hx hb d_De_asks_0 rfl (lv_at hl 0 rfl) ?_
    refine va_get (D := G.1) (ci := 4) (v := .ref cb) (C := R_De) (T := T_De) (N := 2) hx hb hA in_De hown hK.1 (pl_o hP hx0) 0 rfl rfl 0 (by decide) (hA _ kw_80) (fun _ h9 => h9) rfl d_De_asks_1 ?_
    refine lv_iload_n hx hb d_De_asks_4 rfl (lv_at hl 1 rfl) ?_
    refine va_csq (va_Run.run (va_runVN (As := [.int (nI t)]) (rest := []) ⟨hx, hb, hml, hown, hA⟩ (c_Cb_at l G L f hC.2.1 hC.2.2.1 (nI t)) ⟨va_cnB 1 hA (gAW kw_18) rfl rfl rfl (hK.2.1 _ kz_18) (hA _ kw_19) (by decide +kernel) ⟨Nat.le_of_ble_eq_true rfl, Nat.le_of_ble_eq_true rfl⟩, (hA _ kw_21), (hA _ kw_22)⟩ (pw_preV (ci := 1) hP hK hC.2.1 rfl) rfl rfl hl.1 rfl (lv_room (Nat.le_of_ble_eq_true rfl)) d_De_asks_5 ⟨Nat.zero_le _, Nat.zero_le _⟩)) (fun r_1 e_2 => ?_)
    subst e_2
    refine xv_R (a := ad t) (oAt_t (by decide) hcn ht) ?_
    refine lv_astore_n (lv' := [(2, .ref (ad t)), (0, .ref x0), (1, .int (nI t))]) hx hb d_De_asks_8 rfl hl (by decide) rfl (fun ls hl => ?_)
    refine lv_aload_n hx hb d_De_asks_9 rfl (lv_at hl 0 rfl) ?_
    refine lv_ifnonnull (tgt := 15) hx hb d_De_asks_10 (by decide) ?_
    refine lv_iconst (v := nI 0) hx hb d_De_asks_15 (by decide) ?_
    refine lv_istore_n (lv' := [(3, .int (nI 0)), (2, .ref (ad t)), (0, .ref x0), (1, .int (nI t))]) hx hb d_De_asks_16 rfl hl (by decide) rfl (fun ls hl => ?_)
    refine lv_iconst (v := nI 0) hx hb d_De_asks_17 (by decide) ?_
    refine lv_istore (lv' := [(4, .int (nI 0)), (3, .int (nI 0)), (2, .ref (ad t)), (0, .ref x0), (1, .int (nI t))]) hx hb d_De_asks_18 hl (by decide) rfl (fun ls hl => ?_)
    have loop : ∀ (k i : Nat) (ls : Array Slot), i + k = 96 → lv_has ls 5 [(2, .ref (ad t)), (3, .int (nI (sumP (wd t) i))), (4, .int (nI i))] → W p l e (headSpec (.code y_De_asks b_De_asks 5 (some .int) :: AW) (RM 2)).room s m ([.ref x0, .int (nI t)] : List Value).toArray below meth c s.heap [] 0 0 (MQ below (vp_Si (fun r => r = onR (fun t => nI (sumP (wd t) 96)) (inN cn (nI t)))) ([.ref x0, .int (nI t)] : List Value).toArray s 0 0 (fun _ => False)) (F0 m 20 ls []) := by
      intro k
      induction k with
      | zero =>
        intro i  ls hik  hl
        refine lv_iload hx hb d_De_asks_20 (lv_at hl 2 rfl) ?_
        refine lv_bipush (v := nI 96) hx hb d_De_asks_22 (by decide) ?_
        refine lv_icmp_ge (tgt := 45) hx hb d_De_asks_24 (by decide) (fun _ => ?_) (fun c9 => absurd (nI_le (by omega) (by omega)) c9)
        refine lv_iload_n hx hb d_De_asks_45 rfl (lv_at hl 1 rfl) ?_
        exact W.iret (v := nI (sumP (wd t) i)) hx hb hr (fun t9 h9t h9W => ⟨_, rfl, by rw [inN_t ht (by omega), show i = 96 by omega]; rfl, h9t⟩) (fun _ h => nomatch h) d_De_asks_46
      | succ k ih =>
        intro i  ls hik  hl
        refine lv_iload hx hb d_De_asks_20 (lv_at hl 2 rfl) ?_
        refine lv_bipush (v := nI 96) hx hb d_De_asks_22 (by decide) ?_
        refine lv_icmp_ge (tgt := 45) hx hb d_De_asks_24 (by decide) (fun c9 => absurd c9 (nI_ge (by omega) (by omega))) (fun _ => ?_)
        refine lv_iload_n hx hb d_De_asks_27 rfl (lv_at hl 1 rfl) ?_
        refine lv_aload_n hx hb d_De_asks_28 rfl (lv_at hl 0 rfl) ?_
        refine lv_iload hx hb d_De_asks_29 (lv_at hl 2 rfl) ?_
        refine vp_callSl (va_Run.run (va_runVN (As := [.int (nI i)]) (rest := [.int (nI (sumP (wd t) i))]) ⟨hx, hb, hml, hown, hA⟩ (c_Co_word l G L f (hC.2.2.2.2 t ht).1 (hC.2.2.2.2 t ht).2 i (by omega)) ⟨va_cnB 1 hA (gAW kw_10) rfl rfl rfl (hK.2.1 _ kz_19) (hA _ kw_11) (by decide +kernel) ⟨Nat.le_of_ble_eq_true rfl, Nat.le_of_ble_eq_true rfl⟩, (hA _ kw_12), (hA _ kw_13)⟩ (pw_preV (ci := 0) hP hK ((hC.2.2.2.2 t ht).1) rfl) rfl rfl hl.1 rfl (lv_room (Nat.le_of_ble_eq_true rfl)) d_De_asks_31 ⟨Nat.zero_le _, Nat.zero_le _⟩)) (fun r_3 e_4 => ?_)
        subst e_4
        refine vp_callSi (va_Run.run (va_runS (As := [.long (wd t i)]) (rest := [.int (nI (sumP (wd t) i))]) ⟨hx, hb, hml, hown, hA⟩ (c_bitCount l G L f (wd t i)) ⟨callB_of 1 hA (gAW kw_76) rfl rfl rfl (hA _ kw_77) (hA _ kw_78) (by decide +kernel) ⟨Nat.le_of_ble_eq_true rfl, Nat.le_of_ble_eq_true rfl⟩, (hA _ kw_79)⟩ (pw_preS hP hK) rfl rfl hl.1 rfl (lv_room (Nat.le_of_ble_eq_true rfl)) d_De_asks_34 ⟨Nat.zero_le _, Nat.zero_le _⟩)) (fun r_5 e_6 => ?_)
        subst e_6
        refine lv_iadd hx hb d_De_asks_37 ?_
        refine xv_I (y := nI (sumP (wd t) (i + 1))) (nI_add _ _) ?_
        refine lv_istore_n (lv' := [(3, .int (nI (sumP (wd t) (i + 1)))), (2, .ref (ad t)), (4, .int (nI i))]) hx hb d_De_asks_38 rfl hl (by decide) rfl (fun ls hl => ?_)
        refine lv_iinc (v := nI (i + 1)) (lv' := [(4, .int (nI (i + 1))), (3, .int (nI (sumP (wd t) (i + 1)))), (2, .ref (ad t))]) hx hb d_De_asks_39 hl (k := 2) rfl (nI_1 i) (by decide) rfl (fun ls hl => ?_)
        refine lv_goto (tgt := 20) hx hb d_De_asks_42 (by decide) ?_
        exact ih (i + 1)  ls (by omega)  (lv_sub hl [2, 1, 0] rfl)
    exact loop (96 - 0) 0  ls (by omega)  (lv_sub hl [2, 1, 0] rfl)
  · refine lv_aload_n hx hb d_De_asks_0 rfl (lv_at hl 0 rfl) ?_
    refine va_get (D := G.1) (ci := 4) (v := .ref cb) (C := R_De) (T := T_De) (N := 2) hx hb hA in_De hown hK.1 (pl_o hP hx0) 0 rfl rfl 0 (by decide) (hA _ kw_80) (fun _ h9 => h9) rfl d_De_asks_1 ?_
    refine lv_iload_n hx hb d_De_asks_4 rfl (lv_at hl 1 rfl) ?_
    refine va_csq (va_Run.run (va_runVN (As := [.int x]) (rest := []) ⟨hx, hb, hml, hown, hA⟩ (c_Cb_at l G L f hC.2.1 hC.2.2.1 (x)) ⟨va_cnB 1 hA (gAW kw_18) rfl rfl rfl (hK.2.1 _ kz_18) (hA _ kw_19) (by decide +kernel) ⟨Nat.le_of_ble_eq_true rfl, Nat.le_of_ble_eq_true rfl⟩, (hA _ kw_21), (hA _ kw_22)⟩ (pw_preV (ci := 1) hP hK hC.2.1 rfl) rfl rfl hl.1 rfl (lv_room (Nat.le_of_ble_eq_true rfl)) d_De_asks_5 ⟨Nat.zero_le _, Nat.zero_le _⟩)) (fun r_7 e_8 => ?_)
    subst e_8
    refine xv_N hno ?_
    refine lv_astore_nN (lv' := [(2, .null), (0, .ref x0), (1, .int x)]) hx hb d_De_asks_8 rfl hl (by decide) rfl (fun ls hl => ?_)
    refine lv_aload_nN hx hb d_De_asks_9 rfl (lv_at hl 0 rfl) ?_
    refine lv_ifnonnullN hx hb d_De_asks_10 ?_
    refine lv_iconst (v := (-1)) hx hb d_De_asks_13 (by decide) ?_
    exact W.iret (v := (-1)) hx hb hr (fun t9 h9t h9W => ⟨_, rfl, by rw [inN_f hnb]; rfl, h9t⟩) (fun _ h => nomatch h) d_De_asks_14

set_option maxHeartbeats 4000000 in
set_option maxRecDepth 100000 in
/-- ask -/
theorem c_De_ask (l : Launch) (G : GG) (L : List Nat) (f : Nat → va_E) {x0 cb rb : Nat} (hx0 : Lk L f x0 (.inr (4, [.ref cb, .ref rb]))) {mA gA cn : Nat} {ad wa kd : Nat → Nat} {ka kb kc : Nat → Int32} {wd : Nat → Nat → Int64} {mm : Nat → Bool} (hC : CoB G L f cb mA gA cn ad wa kd ka kb kc wd mm) (x y : Int32) : Met l y_De_ask (.code y_De_ask b_De_ask 7 (some .int) :: AW) (RM 2) (va_Pc [.ref x0, .int x, .int y] (PW G L f)) (vp_Si (fun r => r = onR (fun t => askY (wd t) y) (inN cn x))) 0 0 (fun _ => False) := by
  refine Met.ofW (cc := b_De_ask) (maxL := 7) (ret := (some .int)) (by decide) rfl ?_
  intro p e s m args below meth c s₁ B hml hv
  obtain ⟨rfl, hP, hK⟩ := hv
  have hx := B.exec
  have hb := B.bytes
  have hr := B.returns
  have hA : ∀ w ∈ AW, w.before _ s = true := fun w h => atoms_spec (ws := (.code y_De_ask b_De_ask 7 (some .int) :: AW)) B.pre w (List.mem_cons_of_mem _ h)
  have hown : s.vm.findClass R_De = some m.cls := findClass_of_methodNamed B.named
  have hlocks := B.notSynchronized
  have hl := lv_entry ([.ref x0, .int x, .int y]) (n := 7) (Nat.le_of_ble_eq_true rfl)
  rw [lg_entry_eq]
  generalize (lg_sl ([.ref x0, .int x, .int y]) ++ List.replicate (7 - (lg_sl ([.ref x0, .int x, .int y])).length) Slot.unset).toArray = ls at hl ⊢
  have hl : lv_has ls 7 [(0, .ref x0), (1, .int x), (2, .int y)] := hl
  have hcn := hC.1
  rcases at60 (ad := ad) hcn x with ⟨t, ht, rfl⟩ | ⟨hnb, hno⟩
  · refine lv_aload_n hx hb d_De_ask_0 rfl (lv_at hl 0 rfl) ?_
    refine va_get (D := G.1) (ci := 4) (v := .ref cb) (C := R_De) (T := T_De) (N := 2) hx hb hA in_De hown hK.1 (pl_o hP hx0) 0 rfl rfl 0 (by decide) (hA _ kw_80) (fun _ h9 => h9) rfl d_De_ask_1 ?_
    refine lv_iload_n hx hb d_De_ask_4 rfl (lv_at hl 1 rfl) ?_
    refine va_csq (va_Run.run (va_runVN (As := [.int (nI t)]) (rest := []) ⟨hx, hb, hml, hown, hA⟩ (c_Cb_at l G L f hC.2.1 hC.2.2.1 (nI t)) ⟨va_cnB 1 hA (gAW kw_18) rfl rfl rfl (hK.2.1 _ kz_18) (hA _ kw_19) (by decide +kernel) ⟨Nat.le_of_ble_eq_true rfl, Nat.le_of_ble_eq_true rfl⟩, (hA _ kw_21), (hA _ kw_22)⟩ (pw_preV (ci := 1) hP hK hC.2.1 rfl) rfl rfl hl.1 rfl (lv_room (Nat.le_of_ble_eq_true rfl)) d_De_ask_5 ⟨Nat.zero_le _, Nat.zero_le _⟩)) (fun r_1 e_2 => ?_)
    subst e_2
    refine xv_R (a := ad t) (oAt_t (by decide) hcn ht) ?_
    refine lv_astore_n (lv' := [(3, .ref (ad t)), (0, .ref x0), (1, .int (nI t)), (2, .int y)]) hx hb d_De_ask_8 rfl hl (by decide) rfl (fun ls hl => ?_)
    refine lv_aload_n hx hb d_De_ask_9 rfl (lv_at hl 0 rfl) ?_
    refine lv_ifnonnull (tgt := 15) hx hb d_De_ask_10 (by decide) ?_
    refine lv_iload_n hx hb d_De_ask_15 rfl (lv_at hl 3 rfl) ?_
    refine lv_if_ge (tgt := 22) hx hb d_De_ask_16 (by decide) (fun c_16 => ?_) (fun c_16 => ?_)
    · obtain ⟨v, hv2, rfl⟩ := nI_of (i32_nlt c_16)
      refine lv_iload_n hx hb d_De_ask_22 rfl (lv_at hl 3 rfl) ?_
      refine lv_istore (lv' := [(4, .int (nI v)), (3, .ref (ad t)), (0, .ref x0), (1, .int (nI t)), (2, .int (nI v))]) hx hb d_De_ask_23 hl (by decide) rfl (fun ls hl => ?_)
      refine lv_iconst (v := nI 0) hx hb d_De_ask_25 (by decide) ?_
      refine lv_istore (lv' := [(5, .int (nI 0)), (4, .int (nI v)), (3, .ref (ad t)), (0, .ref x0), (1, .int (nI t)), (2, .int (nI v))]) hx hb d_De_ask_26 hl (by decide) rfl (fun ls hl => ?_)
      have loop : ∀ (k i : Nat) (left : Nat) (ls : Array Slot), i + k = 96 → left < 2 ^ 31 → askR (wd t) 96 0 v = askR (wd t) k i left → lv_has ls 7 [(3, .ref (ad t)), (4, .int (nI left)), (5, .int (nI i))] → W p l e (headSpec (.code y_De_ask b_De_ask 7 (some .int) :: AW) (RM 2)).room s m ([.ref x0, .int (nI t), .int (nI v)] : List Value).toArray below meth c s.heap [] 0 0 (MQ below (vp_Si (fun r => r = onR (fun t => askY (wd t) (nI v)) (inN cn (nI t)))) ([.ref x0, .int (nI t), .int (nI v)] : List Value).toArray s 0 0 (fun _ => False)) (F0 m 28 ls []) := by
        intro k
        induction k with
        | zero =>
          intro i left ls hik hlf hres hl
          refine lv_iload hx hb d_De_ask_28 (lv_at hl 2 rfl) ?_
          refine lv_bipush (v := nI 96) hx hb d_De_ask_30 (by decide) ?_
          refine lv_icmp_ge (tgt := 84) hx hb d_De_ask_32 (by decide) (fun _ => ?_) (fun c9 => absurd (nI_le (by omega) (by omega)) c9)
          refine lv_bipush (v := (-2)) hx hb d_De_ask_84 (by decide) ?_
          exact W.iret (v := (-2)) hx hb hr (fun t9 h9t h9W => ⟨_, rfl, by rw [inN_t ht (by omega)]; exact ((if_neg (nI_pos hv2)).trans (by rw [nI_clamp hv2, hres]; rfl)).symm, h9t⟩) (fun _ h => nomatch h) d_De_ask_86
        | succ k ih =>
          intro i left ls hik hlf hres hl
          refine lv_iload hx hb d_De_ask_28 (lv_at hl 2 rfl) ?_
          refine lv_bipush (v := nI 96) hx hb d_De_ask_30 (by decide) ?_
          refine lv_icmp_ge (tgt := 84) hx hb d_De_ask_32 (by decide) (fun c9 => absurd c9 (nI_ge (by omega) (by omega))) (fun _ => ?_)
          refine lv_aload_n hx hb d_De_ask_35 rfl (lv_at hl 0 rfl) ?_
          refine lv_iload hx hb d_De_ask_36 (lv_at hl 2 rfl) ?_
          refine vp_callSl (va_Run.run (va_runVN (As := [.int (nI i)]) (rest := []) ⟨hx, hb, hml, hown, hA⟩ (c_Co_word l G L f (hC.2.2.2.2 t ht).1 (hC.2.2.2.2 t ht).2 i (by omega)) ⟨va_cnB 1 hA (gAW kw_10) rfl rfl rfl (hK.2.1 _ kz_19) (hA _ kw_11) (by decide +kernel) ⟨Nat.le_of_ble_eq_true rfl, Nat.le_of_ble_eq_true rfl⟩, (hA _ kw_12), (hA _ kw_13)⟩ (pw_preV (ci := 0) hP hK ((hC.2.2.2.2 t ht).1) rfl) rfl rfl hl.1 rfl (lv_room (Nat.le_of_ble_eq_true rfl)) d_De_ask_38 ⟨Nat.zero_le _, Nat.zero_le _⟩)) (fun r_3 e_4 => ?_)
          subst e_4
          refine vp_callSi (va_Run.run (va_runS (As := [.long (wd t i)]) (rest := []) ⟨hx, hb, hml, hown, hA⟩ (c_bitCount l G L f (wd t i)) ⟨callB_of 1 hA (gAW kw_76) rfl rfl rfl (hA _ kw_77) (hA _ kw_78) (by decide +kernel) ⟨Nat.le_of_ble_eq_true rfl, Nat.le_of_ble_eq_true rfl⟩, (hA _ kw_79)⟩ (pw_preS hP hK) rfl rfl hl.1 rfl (lv_room (Nat.le_of_ble_eq_true rfl)) d_De_ask_41 ⟨Nat.zero_le _, Nat.zero_le _⟩)) (fun r_5 e_6 => ?_)
          subst e_6
          have hpl := pop_le (wd t i)
          refine lv_istore (lv' := [(6, .int (nI (pop (wd t i)))), (3, .ref (ad t)), (4, .int (nI left)), (5, .int (nI i))]) hx hb d_De_ask_44 hl (by decide) rfl (fun ls hl => ?_)
          refine lv_iload hx hb d_De_ask_46 (lv_at hl 2 rfl) ?_
          refine lv_iload hx hb d_De_ask_48 (lv_at hl 0 rfl) ?_
          by_cases hlt : left < pop (wd t i)
          · refine lv_icmp_ge (tgt := 71) hx hb d_De_ask_50 (by decide) (fun c9 => absurd c9 (nI_ge hlt (by omega))) (fun _ => ?_)
            refine lv_iload hx hb d_De_ask_53 (lv_at hl 3 rfl) ?_
            refine lv_bipush (v := nI 64) hx hb d_De_ask_55 (by decide) ?_
            refine lv_imul hx hb d_De_ask_57 ?_
            refine xv_I (y := nI (i * 64)) (pk_mul _ _) ?_
            refine lv_aload_n hx hb d_De_ask_58 rfl (lv_at hl 1 rfl) ?_
            refine lv_iload hx hb d_De_ask_59 (lv_at hl 3 rfl) ?_
            refine vp_callSl (va_Run.run (va_runVN (As := [.int (nI i)]) (rest := [.int (nI (i * 64))]) ⟨hx, hb, hml, hown, hA⟩ (c_Co_word l G L f (hC.2.2.2.2 t ht).1 (hC.2.2.2.2 t ht).2 i (by omega)) ⟨va_cnB 1 hA (gAW kw_10) rfl rfl rfl (hK.2.1 _ kz_19) (hA _ kw_11) (by decide +kernel) ⟨Nat.le_of_ble_eq_true rfl, Nat.le_of_ble_eq_true rfl⟩, (hA _ kw_12), (hA _ kw_13)⟩ (pw_preV (ci := 0) hP hK ((hC.2.2.2.2 t ht).1) rfl) rfl rfl hl.1 rfl (lv_room (Nat.le_of_ble_eq_true rfl)) d_De_ask_61 ⟨Nat.zero_le _, Nat.zero_le _⟩)) (fun r_7 e_8 => ?_)
            subst e_8
            refine lv_iload hx hb d_De_ask_64 (lv_at hl 2 rfl) ?_
            refine vp_callSi (va_Run.run (va_runS (As := [.long (wd t i), .int (nI left)]) (rest := [.int (nI (i * 64))]) ⟨hx, hb, hml, hown, hA⟩ (c_De_bp l G L f (wd t i) left (by omega)) ⟨callB_of 2 hA (gAW kw_87) rfl rfl rfl (hA _ kw_5) (hA _ kw_88) (by decide +kernel) ⟨Nat.le_of_ble_eq_true rfl, Nat.le_of_ble_eq_true rfl⟩, (hA _ kw_89)⟩ (pw_preS hP hK) rfl rfl hl.1 rfl (lv_room (Nat.le_of_ble_eq_true rfl)) d_De_ask_66 ⟨Nat.zero_le _, Nat.zero_le _⟩)) (fun r_9 e_10 => ?_)
            subst e_10
            refine lv_iadd hx hb d_De_ask_69 ?_
            refine xv_I (y := nI (i * 64 + bpos (wd t i) left)) (nI_add _ _) ?_
            exact W.iret (v := nI (i * 64 + bpos (wd t i) left)) hx hb hr (fun t9 h9t h9W => ⟨_, rfl, by rw [inN_t ht (by omega)]; exact ((if_neg (nI_pos hv2)).trans (by rw [nI_clamp hv2, hres]; exact if_pos hlt)).symm, h9t⟩) (fun _ h => nomatch h) d_De_ask_70
          · refine lv_icmp_ge (tgt := 71) hx hb d_De_ask_50 (by decide) (fun _ => ?_) (fun c9 => absurd (nI_le (by omega) (by omega)) c9)
            refine lv_iload hx hb d_De_ask_71 (lv_at hl 2 rfl) ?_
            refine lv_iload hx hb d_De_ask_73 (lv_at hl 0 rfl) ?_
            refine lv_isub hx hb d_De_ask_75 ?_
            refine xv_I (y := nI (left - pop (wd t i))) (pk_sub (by omega)) ?_
            refine lv_istore (lv' := [(4, .int (nI (left - pop (wd t i)))), (6, .int (nI (pop (wd t i)))), (3, .ref (ad t)), (5, .int (nI i))]) hx hb d_De_ask_76 hl (by decide) rfl (fun ls hl => ?_)
            refine lv_iinc (v := nI (i + 1)) (lv' := [(5, .int (nI (i + 1))), (4, .int (nI (left - pop (wd t i)))), (6, .int (nI (pop (wd t i)))), (3, .ref (ad t))]) hx hb d_De_ask_78 hl (k := 3) rfl (nI_1 i) (by decide) rfl (fun ls hl => ?_)
            refine lv_goto (tgt := 28) hx hb d_De_ask_81 (by decide) ?_
            exact ih (i + 1) (left - pop (wd t i)) ls (by omega) (by omega) (hres.trans (if_neg hlt)) (lv_sub hl [3, 1, 0] rfl)
      exact loop (96 - 0) 0 v ls (by omega) hv2 rfl (lv_sub hl [2, 1, 0] rfl)
    · refine lv_bipush (v := (-2)) hx hb d_De_ask_19 (by decide) ?_
      exact W.iret (v := (-2)) hx hb hr (fun t9 h9t h9W => ⟨_, rfl, by rw [inN_t ht (by omega)]; exact (if_pos (i32_lt c_16)).symm, h9t⟩) (fun _ h => nomatch h) d_De_ask_21
  · refine lv_aload_n hx hb d_De_ask_0 rfl (lv_at hl 0 rfl) ?_
    refine va_get (D := G.1) (ci := 4) (v := .ref cb) (C := R_De) (T := T_De) (N := 2) hx hb hA in_De hown hK.1 (pl_o hP hx0) 0 rfl rfl 0 (by decide) (hA _ kw_80) (fun _ h9 => h9) rfl d_De_ask_1 ?_
    refine lv_iload_n hx hb d_De_ask_4 rfl (lv_at hl 1 rfl) ?_
    refine va_csq (va_Run.run (va_runVN (As := [.int x]) (rest := []) ⟨hx, hb, hml, hown, hA⟩ (c_Cb_at l G L f hC.2.1 hC.2.2.1 (x)) ⟨va_cnB 1 hA (gAW kw_18) rfl rfl rfl (hK.2.1 _ kz_18) (hA _ kw_19) (by decide +kernel) ⟨Nat.le_of_ble_eq_true rfl, Nat.le_of_ble_eq_true rfl⟩, (hA _ kw_21), (hA _ kw_22)⟩ (pw_preV (ci := 1) hP hK hC.2.1 rfl) rfl rfl hl.1 rfl (lv_room (Nat.le_of_ble_eq_true rfl)) d_De_ask_5 ⟨Nat.zero_le _, Nat.zero_le _⟩)) (fun r_11 e_12 => ?_)
    subst e_12
    refine xv_N hno ?_
    refine lv_astore_nN (lv' := [(3, .null), (0, .ref x0), (1, .int x), (2, .int y)]) hx hb d_De_ask_8 rfl hl (by decide) rfl (fun ls hl => ?_)
    refine lv_aload_nN hx hb d_De_ask_9 rfl (lv_at hl 0 rfl) ?_
    refine lv_ifnonnullN hx hb d_De_ask_10 ?_
    refine lv_iconst (v := (-1)) hx hb d_De_ask_13 (by decide) ?_
    exact W.iret (v := (-1)) hx hb hr (fun t9 h9t h9W => ⟨_, rfl, by rw [inN_f hnb]; rfl, h9t⟩) (fun _ h => nomatch h) d_De_ask_14

set_option maxHeartbeats 4000000 in
set_option maxRecDepth 100000 in
/-- within -/
theorem c_De_within (l : Launch) (G : GG) (L : List Nat) (f : Nat → va_E) {x0 cb rb : Nat} (hx0 : Lk L f x0 (.inr (4, [.ref cb, .ref rb]))) {mA gA cn : Nat} {ad wa kd : Nat → Nat} {ka kb kc : Nat → Int32} {wd : Nat → Nat → Int64} {mm : Nat → Bool} (hC : CoB G L f cb mA gA cn ad wa kd ka kb kc wd mm) (x y : Int32) : Met l y_De_within (.code y_De_within b_De_within 6 (some .int) :: AW) (RM 2) (va_Pc [.ref x0, .int x, .int y] (PW G L f)) (vp_Si (fun r => r = onR (fun t => onR (fun u => winR (wd t) (wd u) 96 0) (inN cn y)) (inN cn x))) 0 0 (fun _ => False) := by
  refine Met.ofW (cc := b_De_within) (maxL := 6) (ret := (some .int)) (by decide) rfl ?_
  intro p e s m args below meth c s₁ B hml hv
  obtain ⟨rfl, hP, hK⟩ := hv
  have hx := B.exec
  have hb := B.bytes
  have hr := B.returns
  have hA : ∀ w ∈ AW, w.before _ s = true := fun w h => atoms_spec (ws := (.code y_De_within b_De_within 6 (some .int) :: AW)) B.pre w (List.mem_cons_of_mem _ h)
  have hown : s.vm.findClass R_De = some m.cls := findClass_of_methodNamed B.named
  have hlocks := B.notSynchronized
  have hl := lv_entry ([.ref x0, .int x, .int y]) (n := 6) (Nat.le_of_ble_eq_true rfl)
  rw [lg_entry_eq]
  generalize (lg_sl ([.ref x0, .int x, .int y]) ++ List.replicate (6 - (lg_sl ([.ref x0, .int x, .int y])).length) Slot.unset).toArray = ls at hl ⊢
  have hl : lv_has ls 6 [(0, .ref x0), (1, .int x), (2, .int y)] := hl
  have hcn := hC.1
  rcases at60 (ad := ad) hcn x with ⟨t, ht, rfl⟩ | ⟨hnb, hno⟩
  · refine lv_aload_n hx hb d_De_within_0 rfl (lv_at hl 0 rfl) ?_
    refine va_get (D := G.1) (ci := 4) (v := .ref cb) (C := R_De) (T := T_De) (N := 2) hx hb hA in_De hown hK.1 (pl_o hP hx0) 0 rfl rfl 0 (by decide) (hA _ kw_80) (fun _ h9 => h9) rfl d_De_within_1 ?_
    refine lv_iload_n hx hb d_De_within_4 rfl (lv_at hl 1 rfl) ?_
    refine va_csq (va_Run.run (va_runVN (As := [.int (nI t)]) (rest := []) ⟨hx, hb, hml, hown, hA⟩ (c_Cb_at l G L f hC.2.1 hC.2.2.1 (nI t)) ⟨va_cnB 1 hA (gAW kw_18) rfl rfl rfl (hK.2.1 _ kz_18) (hA _ kw_19) (by decide +kernel) ⟨Nat.le_of_ble_eq_true rfl, Nat.le_of_ble_eq_true rfl⟩, (hA _ kw_21), (hA _ kw_22)⟩ (pw_preV (ci := 1) hP hK hC.2.1 rfl) rfl rfl hl.1 rfl (lv_room (Nat.le_of_ble_eq_true rfl)) d_De_within_5 ⟨Nat.zero_le _, Nat.zero_le _⟩)) (fun r_1 e_2 => ?_)
    subst e_2
    refine xv_R (a := ad t) (oAt_t (by decide) hcn ht) ?_
    refine lv_astore_n (lv' := [(3, .ref (ad t)), (0, .ref x0), (1, .int (nI t)), (2, .int y)]) hx hb d_De_within_8 rfl hl (by decide) rfl (fun ls hl => ?_)
    refine lv_aload_n hx hb d_De_within_9 rfl (lv_at hl 1 rfl) ?_
    refine va_get (D := G.1) (ci := 4) (v := .ref cb) (C := R_De) (T := T_De) (N := 2) hx hb hA in_De hown hK.1 (pl_o hP hx0) 0 rfl rfl 0 (by decide) (hA _ kw_80) (fun _ h9 => h9) rfl d_De_within_10 ?_
    refine lv_iload_n hx hb d_De_within_13 rfl (lv_at hl 3 rfl) ?_
    rcases at60 (ad := ad) hcn y with ⟨u, hu, rfl⟩ | ⟨hnb2, hno2⟩
    · refine va_csq (va_Run.run (va_runVN (As := [.int (nI u)]) (rest := []) ⟨hx, hb, hml, hown, hA⟩ (c_Cb_at l G L f hC.2.1 hC.2.2.1 (nI u)) ⟨va_cnB 1 hA (gAW kw_18) rfl rfl rfl (hK.2.1 _ kz_18) (hA _ kw_19) (by decide +kernel) ⟨Nat.le_of_ble_eq_true rfl, Nat.le_of_ble_eq_true rfl⟩, (hA _ kw_21), (hA _ kw_22)⟩ (pw_preV (ci := 1) hP hK hC.2.1 rfl) rfl rfl hl.1 rfl (lv_room (Nat.le_of_ble_eq_true rfl)) d_De_within_14 ⟨Nat.zero_le _, Nat.zero_le _⟩)) (fun r_3 e_4 => ?_)
      subst e_4
      refine xv_R (a := ad u) (oAt_t (by decide) hcn hu) ?_
      refine lv_astore (lv' := [(4, .ref (ad u)), (3, .ref (ad t)), (0, .ref x0), (1, .int (nI t)), (2, .int (nI u))]) hx hb d_De_within_17 hl (by decide) rfl (fun ls hl => ?_)
      refine lv_aload_n hx hb d_De_within_19 rfl (lv_at hl 1 rfl) ?_
      refine lv_ifnull hx hb d_De_within_20 ?_
      refine lv_aload hx hb d_De_within_23 (lv_at hl 0 rfl) ?_
      refine lv_ifnonnull (tgt := 30) hx hb d_De_within_25 (by decide) ?_
      refine lv_iconst (v := nI 0) hx hb d_De_within_30 (by decide) ?_
      refine lv_istore (lv' := [(5, .int (nI 0)), (4, .ref (ad u)), (3, .ref (ad t)), (0, .ref x0), (1, .int (nI t)), (2, .int (nI u))]) hx hb d_De_within_31 hl (by decide) rfl (fun ls hl => ?_)
      have loop : ∀ (k i : Nat) (ls : Array Slot), i + k = 96 → winR (wd t) (wd u) 96 0 = winR (wd t) (wd u) k i → lv_has ls 6 [(3, .ref (ad t)), (4, .ref (ad u)), (5, .int (nI i))] → W p l e (headSpec (.code y_De_within b_De_within 6 (some .int) :: AW) (RM 2)).room s m ([.ref x0, .int (nI t), .int (nI u)] : List Value).toArray below meth c s.heap [] 0 0 (MQ below (vp_Si (fun r => r = onR (fun t => onR (fun u => winR (wd t) (wd u) 96 0) (inN cn (nI u))) (inN cn (nI t)))) ([.ref x0, .int (nI t), .int (nI u)] : List Value).toArray s 0 0 (fun _ => False)) (F0 m 33 ls []) := by
        intro k
        induction k with
        | zero =>
          intro i  ls hik hres hl
          refine lv_iload hx hb d_De_within_33 (lv_at hl 2 rfl) ?_
          refine lv_bipush (v := nI 96) hx hb d_De_within_35 (by decide) ?_
          refine lv_icmp_ge (tgt := 71) hx hb d_De_within_37 (by decide) (fun _ => ?_) (fun c9 => absurd (nI_le (by omega) (by omega)) c9)
          refine lv_iconst (v := nI 1) hx hb d_De_within_71 (by decide) ?_
          exact W.iret (v := nI 1) hx hb hr (fun t9 h9t h9W => ⟨_, rfl, by rw [inN_t ht (by omega), inN_t hu (by omega)]; exact (hres.trans rfl).symm, h9t⟩) (fun _ h => nomatch h) d_De_within_72
        | succ k ih =>
          intro i  ls hik hres hl
          refine lv_iload hx hb d_De_within_33 (lv_at hl 2 rfl) ?_
          refine lv_bipush (v := nI 96) hx hb d_De_within_35 (by decide) ?_
          refine lv_icmp_ge (tgt := 71) hx hb d_De_within_37 (by decide) (fun c9 => absurd c9 (nI_ge (by omega) (by omega))) (fun _ => ?_)
          refine lv_aload_n hx hb d_De_within_40 rfl (lv_at hl 0 rfl) ?_
          refine lv_iload hx hb d_De_within_41 (lv_at hl 2 rfl) ?_
          refine vp_callSl (va_Run.run (va_runVN (As := [.int (nI i)]) (rest := []) ⟨hx, hb, hml, hown, hA⟩ (c_Co_word l G L f (hC.2.2.2.2 t ht).1 (hC.2.2.2.2 t ht).2 i (by omega)) ⟨va_cnB 1 hA (gAW kw_10) rfl rfl rfl (hK.2.1 _ kz_19) (hA _ kw_11) (by decide +kernel) ⟨Nat.le_of_ble_eq_true rfl, Nat.le_of_ble_eq_true rfl⟩, (hA _ kw_12), (hA _ kw_13)⟩ (pw_preV (ci := 0) hP hK ((hC.2.2.2.2 t ht).1) rfl) rfl rfl hl.1 rfl (lv_room (Nat.le_of_ble_eq_true rfl)) d_De_within_43 ⟨Nat.zero_le _, Nat.zero_le _⟩)) (fun r_5 e_6 => ?_)
          subst e_6
          refine lv_aload hx hb d_De_within_46 (lv_at hl 1 rfl) ?_
          refine lv_iload hx hb d_De_within_48 (lv_at hl 2 rfl) ?_
          refine vp_callSl (va_Run.run (va_runVN (As := [.int (nI i)]) (rest := [.long (wd t i)]) ⟨hx, hb, hml, hown, hA⟩ (c_Co_word l G L f (hC.2.2.2.2 u hu).1 (hC.2.2.2.2 u hu).2 i (by omega)) ⟨va_cnB 1 hA (gAW kw_10) rfl rfl rfl (hK.2.1 _ kz_19) (hA _ kw_11) (by decide +kernel) ⟨Nat.le_of_ble_eq_true rfl, Nat.le_of_ble_eq_true rfl⟩, (hA _ kw_12), (hA _ kw_13)⟩ (pw_preV (ci := 0) hP hK ((hC.2.2.2.2 u hu).1) rfl) rfl rfl hl.1 rfl (lv_room (Nat.le_of_ble_eq_true rfl)) d_De_within_50 ⟨Nat.zero_le _, Nat.zero_le _⟩)) (fun r_7 e_8 => ?_)
          subst e_8
          refine lv_ldc2 (v := (-1)) hx hb hown (hA _ kw_82) d_De_within_53 ?_
          refine lv_lxor hx hb d_De_within_56 ?_
          refine lv_land hx hb d_De_within_57 ?_
          refine lv_lconst (v := 0) hx hb d_De_within_58 (by decide) ?_
          refine W.lcmp hx hb d_De_within_59 ?_
          by_cases hz : wd t i &&& (wd u i ^^^ (-1)) = 0
          · refine lv_if_eq (tgt := 65) hx hb d_De_within_60 (by decide) (fun _ => ?_) (fun c9 => absurd ((lg_cmp_eq _ _).mpr hz) c9)
            refine lv_iinc (v := nI (i + 1)) (lv' := [(5, .int (nI (i + 1))), (3, .ref (ad t)), (4, .ref (ad u))]) hx hb d_De_within_65 hl (k := 2) rfl (nI_1 i) (by decide) rfl (fun ls hl => ?_)
            refine lv_goto (tgt := 33) hx hb d_De_within_68 (by decide) ?_
            exact ih (i + 1)  ls (by omega) (hres.trans (if_pos hz)) (lv_sub hl [1, 2, 0] rfl)
          · refine lv_if_eq (tgt := 65) hx hb d_De_within_60 (by decide) (fun c9 => absurd c9 (fun z => hz ((lg_cmp_eq _ _).mp z))) (fun _ => ?_)
            refine lv_iconst (v := nI 0) hx hb d_De_within_63 (by decide) ?_
            exact W.iret (v := nI 0) hx hb hr (fun t9 h9t h9W => ⟨_, rfl, by rw [inN_t ht (by omega), inN_t hu (by omega)]; exact (hres.trans (if_neg hz)).symm, h9t⟩) (fun _ h => nomatch h) d_De_within_64
      exact loop (96 - 0) 0  ls (by omega) rfl (lv_sub hl [2, 1, 0] rfl)
    · refine va_csq (va_Run.run (va_runVN (As := [.int y]) (rest := []) ⟨hx, hb, hml, hown, hA⟩ (c_Cb_at l G L f hC.2.1 hC.2.2.1 y) ⟨va_cnB 1 hA (gAW kw_18) rfl rfl rfl (hK.2.1 _ kz_18) (hA _ kw_19) (by decide +kernel) ⟨Nat.le_of_ble_eq_true rfl, Nat.le_of_ble_eq_true rfl⟩, (hA _ kw_21), (hA _ kw_22)⟩ (pw_preV (ci := 1) hP hK hC.2.1 rfl) rfl rfl hl.1 rfl (lv_room (Nat.le_of_ble_eq_true rfl)) d_De_within_14 ⟨Nat.zero_le _, Nat.zero_le _⟩)) (fun r_9 e_10 => ?_)
      subst e_10
      refine xv_N hno2 ?_
      refine lv_astoreN (lv' := [(4, .null), (3, .ref (ad t)), (0, .ref x0), (1, .int (nI t)), (2, .int y)]) hx hb d_De_within_17 hl (by decide) rfl (fun ls hl => ?_)
      refine lv_aload_n hx hb d_De_within_19 rfl (lv_at hl 1 rfl) ?_
      refine lv_ifnull hx hb d_De_within_20 ?_
      refine lv_aloadN hx hb d_De_within_23 (lv_at hl 0 rfl) ?_
      refine lv_ifnonnullN hx hb d_De_within_25 ?_
      refine lv_iconst (v := (-1)) hx hb d_De_within_28 (by decide) ?_
      exact W.iret (v := (-1)) hx hb hr (fun t9 h9t h9W => ⟨_, rfl, by rw [inN_t ht (by omega), inN_f hnb2]; rfl, h9t⟩) (fun _ h => nomatch h) d_De_within_29
  · refine lv_aload_n hx hb d_De_within_0 rfl (lv_at hl 0 rfl) ?_
    refine va_get (D := G.1) (ci := 4) (v := .ref cb) (C := R_De) (T := T_De) (N := 2) hx hb hA in_De hown hK.1 (pl_o hP hx0) 0 rfl rfl 0 (by decide) (hA _ kw_80) (fun _ h9 => h9) rfl d_De_within_1 ?_
    refine lv_iload_n hx hb d_De_within_4 rfl (lv_at hl 1 rfl) ?_
    refine va_csq (va_Run.run (va_runVN (As := [.int x]) (rest := []) ⟨hx, hb, hml, hown, hA⟩ (c_Cb_at l G L f hC.2.1 hC.2.2.1 (x)) ⟨va_cnB 1 hA (gAW kw_18) rfl rfl rfl (hK.2.1 _ kz_18) (hA _ kw_19) (by decide +kernel) ⟨Nat.le_of_ble_eq_true rfl, Nat.le_of_ble_eq_true rfl⟩, (hA _ kw_21), (hA _ kw_22)⟩ (pw_preV (ci := 1) hP hK hC.2.1 rfl) rfl rfl hl.1 rfl (lv_room (Nat.le_of_ble_eq_true rfl)) d_De_within_5 ⟨Nat.zero_le _, Nat.zero_le _⟩)) (fun r_11 e_12 => ?_)
    subst e_12
    refine xv_N hno ?_
    refine lv_astore_nN (lv' := [(3, .null), (0, .ref x0), (1, .int x), (2, .int y)]) hx hb d_De_within_8 rfl hl (by decide) rfl (fun ls hl => ?_)
    refine lv_aload_n hx hb d_De_within_9 rfl (lv_at hl 1 rfl) ?_
    refine va_get (D := G.1) (ci := 4) (v := .ref cb) (C := R_De) (T := T_De) (N := 2) hx hb hA in_De hown hK.1 (pl_o hP hx0) 0 rfl rfl 0 (by decide) (hA _ kw_80) (fun _ h9 => h9) rfl d_De_within_10 ?_
    refine lv_iload_n hx hb d_De_within_13 rfl (lv_at hl 3 rfl) ?_
    rcases at60 (ad := ad) hcn y with ⟨u, hu, rfl⟩ | ⟨hnb2, hno2⟩
    · refine va_csq (va_Run.run (va_runVN (As := [.int (nI u)]) (rest := []) ⟨hx, hb, hml, hown, hA⟩ (c_Cb_at l G L f hC.2.1 hC.2.2.1 (nI u)) ⟨va_cnB 1 hA (gAW kw_18) rfl rfl rfl (hK.2.1 _ kz_18) (hA _ kw_19) (by decide +kernel) ⟨Nat.le_of_ble_eq_true rfl, Nat.le_of_ble_eq_true rfl⟩, (hA _ kw_21), (hA _ kw_22)⟩ (pw_preV (ci := 1) hP hK hC.2.1 rfl) rfl rfl hl.1 rfl (lv_room (Nat.le_of_ble_eq_true rfl)) d_De_within_14 ⟨Nat.zero_le _, Nat.zero_le _⟩)) (fun r_13 e_14 => ?_)
      subst e_14
      refine xv_R (a := ad u) (oAt_t (by decide) hcn hu) ?_
      refine lv_astore (lv' := [(4, .ref (ad u)), (3, .null), (0, .ref x0), (1, .int x), (2, .int (nI u))]) hx hb d_De_within_17 hl (by decide) rfl (fun ls hl => ?_)
      refine lv_aload_nN hx hb d_De_within_19 rfl (lv_at hl 1 rfl) ?_
      refine lv_ifnullN (tgt := 28) hx hb d_De_within_20 (by decide) ?_
      refine lv_iconst (v := (-1)) hx hb d_De_within_28 (by decide) ?_
      exact W.iret (v := (-1)) hx hb hr (fun t9 h9t h9W => ⟨_, rfl, by rw [inN_f hnb]; rfl, h9t⟩) (fun _ h => nomatch h) d_De_within_29
    · refine va_csq (va_Run.run (va_runVN (As := [.int y]) (rest := []) ⟨hx, hb, hml, hown, hA⟩ (c_Cb_at l G L f hC.2.1 hC.2.2.1 y) ⟨va_cnB 1 hA (gAW kw_18) rfl rfl rfl (hK.2.1 _ kz_18) (hA _ kw_19) (by decide +kernel) ⟨Nat.le_of_ble_eq_true rfl, Nat.le_of_ble_eq_true rfl⟩, (hA _ kw_21), (hA _ kw_22)⟩ (pw_preV (ci := 1) hP hK hC.2.1 rfl) rfl rfl hl.1 rfl (lv_room (Nat.le_of_ble_eq_true rfl)) d_De_within_14 ⟨Nat.zero_le _, Nat.zero_le _⟩)) (fun r_15 e_16 => ?_)
      subst e_16
      refine xv_N hno2 ?_
      refine lv_astoreN (lv' := [(4, .null), (3, .null), (0, .ref x0), (1, .int x), (2, .int y)]) hx hb d_De_within_17 hl (by decide) rfl (fun ls hl => ?_)
      refine lv_aload_nN hx hb d_De_within_19 rfl (lv_at hl 1 rfl) ?_
      refine lv_ifnullN (tgt := 28) hx hb d_De_within_20 (by decide) ?_
      refine lv_iconst (v := (-1)) hx hb d_De_within_28 (by decide) ?_
      exact W.iret (v := (-1)) hx hb hr (fun t9 h9t h9W => ⟨_, rfl, by rw [inN_f hnb]; rfl, h9t⟩) (fun _ h => nomatch h) d_De_within_29

set_option maxHeartbeats 4000000 in
set_option maxRecDepth 100000 in
/-- decides -/
theorem c_De_decides (l : Launch) (G : GG) (L : List Nat) (f : Nat → va_E) {x0 cb rb : Nat} (hx0 : Lk L f x0 (.inr (4, [.ref cb, .ref rb]))) {rA rn : Nat} {rad ca wb rk nu : Nat → Nat} {dn : Nat → Bool} {vw : Nat → Nat → Int64} (hB : RuB G L f rb rA rn rad ca wb rk nu dn vw) (x : Int32) : Met l y_De_decides (.code y_De_decides b_De_decides 5 (some .int) :: AW) (RM 5) (va_Pc [.ref x0, .int x] (PW G L f)) (vp_Si (fun r => r = onR (fun q => nI (sumP (fun j => deF vw j q 0 (vw q j)) 96)) (fst0 (isNo rn nu x) 20 0))) 0 0 (fun _ => False) := by
  refine Met.ofW (cc := b_De_decides) (maxL := 5) (ret := (some .int)) (by decide) rfl ?_
  intro p e s m args below meth c s₁ B hml hv
  obtain ⟨rfl, hP, hK⟩ := hv
  have hx := B.exec
  have hb := B.bytes
  have hr := B.returns
  have hA : ∀ w ∈ AW, w.before _ s = true := fun w h => atoms_spec (ws := (.code y_De_decides b_De_decides 5 (some .int) :: AW)) B.pre w (List.mem_cons_of_mem _ h)
  have hown : s.vm.findClass R_De = some m.cls := findClass_of_methodNamed B.named
  have hlocks := B.notSynchronized
  have hl := lv_entry ([.ref x0, .int x]) (n := 5) (Nat.le_of_ble_eq_true rfl)
  rw [lg_entry_eq]
  generalize (lg_sl ([.ref x0, .int x]) ++ List.replicate (5 - (lg_sl ([.ref x0, .int x])).length) Slot.unset).toArray = ls at hl ⊢
  have hl : lv_has ls 5 [(0, .ref x0), (1, .int x)] := hl
  have hrn := hB.1
  refine lv_aload_n hx hb d_De_decides_0 rfl (lv_at hl 0 rfl) ?_
  refine va_get (D := G.1) (ci := 4) (v := .ref rb) (C := R_De) (T := T_De) (N := 2) hx hb hA in_De hown hK.1 (pl_o hP hx0) 0 rfl rfl 1 (by decide) (hA _ kw_81) (fun _ h9 => h9) rfl d_De_decides_1 ?_
  refine lv_iload_n hx hb d_De_decides_4 rfl (lv_at hl 1 rfl) ?_
  refine vp_callSi (va_Run.run (va_runVN (As := [.int x]) (rest := []) ⟨hx, hb, hml, hown, hA⟩ (c_Rb_placeOf l G L f hB x) ⟨va_cnB 1 hA (gAW kw_90) rfl rfl rfl (hK.2.1 _ kz_20) (hA _ kw_48) (by decide +kernel) ⟨Nat.le_of_ble_eq_true rfl, Nat.le_of_ble_eq_true rfl⟩, (hA _ kw_91), (hA _ kw_92)⟩ (pw_preV (ci := 3) hP hK hB.2.1 rfl) rfl rfl hl.1 rfl (lv_room (Nat.le_of_ble_eq_true rfl)) d_De_decides_5 ⟨Nat.zero_le _, Nat.zero_le _⟩)) (fun r_1 e_2 => ?_)
  subst e_2
  rcases ocase (fst0 (isNo rn nu x) 20 0) with hf | ⟨q, hf⟩
  · refine xv_I (y := (-1)) (by rw [hf]; rfl) ?_
    refine lv_istore_n (lv' := [(2, .int (-1)), (0, .ref x0), (1, .int x)]) hx hb d_De_decides_8 rfl hl (by decide) rfl (fun ls hl => ?_)
    refine lv_iload_n hx hb d_De_decides_9 rfl (lv_at hl 0 rfl) ?_
    refine lv_iconst (v := (-1)) hx hb d_De_decides_10 (by decide) ?_
    refine lv_icmp_ne (tgt := 16) hx hb d_De_decides_11 (by decide) (fun c9 => absurd rfl c9) (fun _ => ?_)
    refine lv_iconst (v := (-1)) hx hb d_De_decides_14 (by decide) ?_
    exact W.iret (v := (-1)) hx hb hr (fun t9 h9t h9W => ⟨_, rfl, by rw [hf]; rfl, h9t⟩) (fun _ h => nomatch h) d_De_decides_15
  · have hq : q < rn := (of_decide_eq_true (fst0_t hf).1).1
    refine xv_I (y := nI q) (by rw [hf]; rfl) ?_
    refine lv_istore_n (lv' := [(2, .int (nI q)), (0, .ref x0), (1, .int x)]) hx hb d_De_decides_8 rfl hl (by decide) rfl (fun ls hl => ?_)
    refine lv_iload_n hx hb d_De_decides_9 rfl (lv_at hl 0 rfl) ?_
    refine lv_iconst (v := (-1)) hx hb d_De_decides_10 (by decide) ?_
    refine lv_icmp_ne (tgt := 16) hx hb d_De_decides_11 (by decide) (fun _ => ?_) (fun c9 => absurd c9 (nI_m1 (by omega)))
    refine lv_iconst (v := nI 0) hx hb d_De_decides_16 (by decide) ?_
    refine lv_istore_n (lv' := [(3, .int (nI 0)), (2, .int (nI q)), (0, .ref x0), (1, .int x)]) hx hb d_De_decides_17 rfl hl (by decide) rfl (fun ls hl => ?_)
    refine lv_iconst (v := nI 0) hx hb d_De_decides_18 (by decide) ?_
    refine lv_istore (lv' := [(4, .int (nI 0)), (3, .int (nI 0)), (2, .int (nI q)), (0, .ref x0), (1, .int x)]) hx hb d_De_decides_19 hl (by decide) rfl (fun ls hl => ?_)
    have loop : ∀ (k i : Nat) (ls : Array Slot), i + k = 96 → lv_has ls 5 [(0, .ref x0), (2, .int (nI q)), (3, .int (nI (sumP (fun j => deF vw j q 0 (vw q j)) i))), (4, .int (nI i))] → W p l e (headSpec (.code y_De_decides b_De_decides 5 (some .int) :: AW) (RM 5)).room s m ([.ref x0, .int x] : List Value).toArray below meth c s.heap [] 0 0 (MQ below (vp_Si (fun r => r = onR (fun q => nI (sumP (fun j => deF vw j q 0 (vw q j)) 96)) (fst0 (isNo rn nu x) 20 0))) ([.ref x0, .int x] : List Value).toArray s 0 0 (fun _ => False)) (F0 m 21 ls []) := by
      intro k
      induction k with
      | zero =>
        intro i  ls hik  hl
        refine lv_iload hx hb d_De_decides_21 (lv_at hl 3 rfl) ?_
        refine lv_bipush (v := nI 96) hx hb d_De_decides_23 (by decide) ?_
        refine lv_icmp_ge (tgt := 50) hx hb d_De_decides_25 (by decide) (fun _ => ?_) (fun c9 => absurd (nI_le (by omega) (by omega)) c9)
        refine lv_iload_n hx hb d_De_decides_50 rfl (lv_at hl 2 rfl) ?_
        exact W.iret (v := nI (sumP (fun j => deF vw j q 0 (vw q j)) i)) hx hb hr (fun t9 h9t h9W => ⟨_, rfl, by rw [hf, show i = 96 by omega]; rfl, h9t⟩) (fun _ h => nomatch h) d_De_decides_51
      | succ k ih =>
        intro i  ls hik  hl
        refine lv_iload hx hb d_De_decides_21 (lv_at hl 3 rfl) ?_
        refine lv_bipush (v := nI 96) hx hb d_De_decides_23 (by decide) ?_
        refine lv_icmp_ge (tgt := 50) hx hb d_De_decides_25 (by decide) (fun c9 => absurd c9 (nI_ge (by omega) (by omega))) (fun _ => ?_)
        refine lv_iload_n hx hb d_De_decides_28 rfl (lv_at hl 2 rfl) ?_
        refine lv_aload_n hx hb d_De_decides_29 rfl (lv_at hl 0 rfl) ?_
        refine va_get (D := G.1) (ci := 4) (v := .ref rb) (C := R_De) (T := T_De) (N := 2) hx hb hA in_De hown hK.1 (pl_o hP hx0) 0 rfl rfl 1 (by decide) (hA _ kw_81) (fun _ h9 => h9) rfl d_De_decides_30 ?_
        refine lv_iload_n hx hb d_De_decides_33 rfl (lv_at hl 1 rfl) ?_
        refine lv_iload hx hb d_De_decides_34 (lv_at hl 3 rfl) ?_
        refine vp_callSl (va_Run.run (va_runVN (As := [.int (nI q), .int (nI i)]) (rest := [.int (nI (sumP (fun j => deF vw j q 0 (vw q j)) i))]) ⟨hx, hb, hml, hown, hA⟩ (c_Rb_deF l G L f hB q i hq (by omega)) ⟨va_cnB 2 hA (gAW kw_65) rfl rfl rfl (hK.2.1 _ kz_21) (hA _ kw_48) (by decide +kernel) ⟨Nat.le_of_ble_eq_true rfl, Nat.le_of_ble_eq_true rfl⟩, (hA _ kw_67), (hA _ kw_68)⟩ (pw_preV (ci := 3) hP hK hB.2.1 rfl) rfl rfl hl.1 rfl (lv_room (Nat.le_of_ble_eq_true rfl)) d_De_decides_36 ⟨Nat.zero_le _, Nat.zero_le _⟩)) (fun r_3 e_4 => ?_)
        subst e_4
        refine vp_callSi (va_Run.run (va_runS (As := [.long (deF vw i q 0 (vw q i))]) (rest := [.int (nI (sumP (fun j => deF vw j q 0 (vw q j)) i))]) ⟨hx, hb, hml, hown, hA⟩ (c_bitCount l G L f (deF vw i q 0 (vw q i))) ⟨callB_of 1 hA (gAW kw_76) rfl rfl rfl (hA _ kw_77) (hA _ kw_78) (by decide +kernel) ⟨Nat.le_of_ble_eq_true rfl, Nat.le_of_ble_eq_true rfl⟩, (hA _ kw_79)⟩ (pw_preS hP hK) rfl rfl hl.1 rfl (lv_room (Nat.le_of_ble_eq_true rfl)) d_De_decides_39 ⟨Nat.zero_le _, Nat.zero_le _⟩)) (fun r_5 e_6 => ?_)
        subst e_6
        refine lv_iadd hx hb d_De_decides_42 ?_
        refine xv_I (y := nI (sumP (fun j => deF vw j q 0 (vw q j)) (i + 1))) (nI_add _ _) ?_
        refine lv_istore_n (lv' := [(3, .int (nI (sumP (fun j => deF vw j q 0 (vw q j)) (i + 1)))), (0, .ref x0), (2, .int (nI q)), (4, .int (nI i))]) hx hb d_De_decides_43 rfl hl (by decide) rfl (fun ls hl => ?_)
        refine lv_iinc (v := nI (i + 1)) (lv' := [(4, .int (nI (i + 1))), (3, .int (nI (sumP (fun j => deF vw j q 0 (vw q j)) (i + 1)))), (0, .ref x0), (2, .int (nI q))]) hx hb d_De_decides_44 hl (k := 3) rfl (nI_1 i) (by decide) rfl (fun ls hl => ?_)
        refine lv_goto (tgt := 21) hx hb d_De_decides_47 (by decide) ?_
        exact ih (i + 1)  ls (by omega)  (lv_sub hl [2, 3, 1, 0] rfl)
    exact loop (96 - 0) 0  ls (by omega)  (lv_sub hl [3, 2, 1, 0] rfl)

set_option maxHeartbeats 4000000 in
set_option maxRecDepth 100000 in
/-- matters -/
theorem c_De_matters (l : Launch) (G : GG) (L : List Nat) (f : Nat → va_E) {x0 cb rb : Nat} (hx0 : Lk L f x0 (.inr (4, [.ref cb, .ref rb]))) {rA rn : Nat} {rad ca wb rk nu : Nat → Nat} {dn : Nat → Bool} {vw : Nat → Nat → Int64} (hB : RuB G L f rb rA rn rad ca wb rk nu dn vw) (x : Int32) : Met l y_De_matters (.code y_De_matters b_De_matters 5 (some .int) :: AW) (RM 6) (va_Pc [.ref x0, .int x] (PW G L f)) (vp_Si (fun r => r = onR (fun q => nI (sumP (tuF vw dn rn q) 96)) (fst0 (isNo rn nu x) 20 0))) 0 0 (fun _ => False) := by
  refine Met.ofW (cc := b_De_matters) (maxL := 5) (ret := (some .int)) (by decide) rfl ?_
  intro p e s m args below meth c s₁ B hml hv
  obtain ⟨rfl, hP, hK⟩ := hv
  have hx := B.exec
  have hb := B.bytes
  have hr := B.returns
  have hA : ∀ w ∈ AW, w.before _ s = true := fun w h => atoms_spec (ws := (.code y_De_matters b_De_matters 5 (some .int) :: AW)) B.pre w (List.mem_cons_of_mem _ h)
  have hown : s.vm.findClass R_De = some m.cls := findClass_of_methodNamed B.named
  have hlocks := B.notSynchronized
  have hl := lv_entry ([.ref x0, .int x]) (n := 5) (Nat.le_of_ble_eq_true rfl)
  rw [lg_entry_eq]
  generalize (lg_sl ([.ref x0, .int x]) ++ List.replicate (5 - (lg_sl ([.ref x0, .int x])).length) Slot.unset).toArray = ls at hl ⊢
  have hl : lv_has ls 5 [(0, .ref x0), (1, .int x)] := hl
  have hrn := hB.1
  refine lv_aload_n hx hb d_De_matters_0 rfl (lv_at hl 0 rfl) ?_
  refine va_get (D := G.1) (ci := 4) (v := .ref rb) (C := R_De) (T := T_De) (N := 2) hx hb hA in_De hown hK.1 (pl_o hP hx0) 0 rfl rfl 1 (by decide) (hA _ kw_81) (fun _ h9 => h9) rfl d_De_matters_1 ?_
  refine lv_iload_n hx hb d_De_matters_4 rfl (lv_at hl 1 rfl) ?_
  refine vp_callSi (va_Run.run (va_runVN (As := [.int x]) (rest := []) ⟨hx, hb, hml, hown, hA⟩ (c_Rb_placeOf l G L f hB x) ⟨va_cnB 1 hA (gAW kw_90) rfl rfl rfl (hK.2.1 _ kz_20) (hA _ kw_48) (by decide +kernel) ⟨Nat.le_of_ble_eq_true rfl, Nat.le_of_ble_eq_true rfl⟩, (hA _ kw_91), (hA _ kw_92)⟩ (pw_preV (ci := 3) hP hK hB.2.1 rfl) rfl rfl hl.1 rfl (lv_room (Nat.le_of_ble_eq_true rfl)) d_De_matters_5 ⟨Nat.zero_le _, Nat.zero_le _⟩)) (fun r_1 e_2 => ?_)
  subst e_2
  rcases ocase (fst0 (isNo rn nu x) 20 0) with hf | ⟨q, hf⟩
  · refine xv_I (y := (-1)) (by rw [hf]; rfl) ?_
    refine lv_istore_n (lv' := [(2, .int (-1)), (0, .ref x0), (1, .int x)]) hx hb d_De_matters_8 rfl hl (by decide) rfl (fun ls hl => ?_)
    refine lv_iload_n hx hb d_De_matters_9 rfl (lv_at hl 0 rfl) ?_
    refine lv_iconst (v := (-1)) hx hb d_De_matters_10 (by decide) ?_
    refine lv_icmp_ne (tgt := 16) hx hb d_De_matters_11 (by decide) (fun c9 => absurd rfl c9) (fun _ => ?_)
    refine lv_iconst (v := (-1)) hx hb d_De_matters_14 (by decide) ?_
    exact W.iret (v := (-1)) hx hb hr (fun t9 h9t h9W => ⟨_, rfl, by rw [hf]; rfl, h9t⟩) (fun _ h => nomatch h) d_De_matters_15
  · have hq : q < rn := (of_decide_eq_true (fst0_t hf).1).1
    refine xv_I (y := nI q) (by rw [hf]; rfl) ?_
    refine lv_istore_n (lv' := [(2, .int (nI q)), (0, .ref x0), (1, .int x)]) hx hb d_De_matters_8 rfl hl (by decide) rfl (fun ls hl => ?_)
    refine lv_iload_n hx hb d_De_matters_9 rfl (lv_at hl 0 rfl) ?_
    refine lv_iconst (v := (-1)) hx hb d_De_matters_10 (by decide) ?_
    refine lv_icmp_ne (tgt := 16) hx hb d_De_matters_11 (by decide) (fun _ => ?_) (fun c9 => absurd c9 (nI_m1 (by omega)))
    refine lv_iconst (v := nI 0) hx hb d_De_matters_16 (by decide) ?_
    refine lv_istore_n (lv' := [(3, .int (nI 0)), (2, .int (nI q)), (0, .ref x0), (1, .int x)]) hx hb d_De_matters_17 rfl hl (by decide) rfl (fun ls hl => ?_)
    refine lv_iconst (v := nI 0) hx hb d_De_matters_18 (by decide) ?_
    refine lv_istore (lv' := [(4, .int (nI 0)), (3, .int (nI 0)), (2, .int (nI q)), (0, .ref x0), (1, .int x)]) hx hb d_De_matters_19 hl (by decide) rfl (fun ls hl => ?_)
    have loop : ∀ (k i : Nat) (ls : Array Slot), i + k = 96 → lv_has ls 5 [(0, .ref x0), (2, .int (nI q)), (3, .int (nI (sumP (tuF vw dn rn q) i))), (4, .int (nI i))] → W p l e (headSpec (.code y_De_matters b_De_matters 5 (some .int) :: AW) (RM 6)).room s m ([.ref x0, .int x] : List Value).toArray below meth c s.heap [] 0 0 (MQ below (vp_Si (fun r => r = onR (fun q => nI (sumP (tuF vw dn rn q) 96)) (fst0 (isNo rn nu x) 20 0))) ([.ref x0, .int x] : List Value).toArray s 0 0 (fun _ => False)) (F0 m 21 ls []) := by
      intro k
      induction k with
      | zero =>
        intro i  ls hik  hl
        refine lv_iload hx hb d_De_matters_21 (lv_at hl 3 rfl) ?_
        refine lv_bipush (v := nI 96) hx hb d_De_matters_23 (by decide) ?_
        refine lv_icmp_ge (tgt := 50) hx hb d_De_matters_25 (by decide) (fun _ => ?_) (fun c9 => absurd (nI_le (by omega) (by omega)) c9)
        refine lv_iload_n hx hb d_De_matters_50 rfl (lv_at hl 2 rfl) ?_
        exact W.iret (v := nI (sumP (tuF vw dn rn q) i)) hx hb hr (fun t9 h9t h9W => ⟨_, rfl, by rw [hf, show i = 96 by omega]; rfl, h9t⟩) (fun _ h => nomatch h) d_De_matters_51
      | succ k ih =>
        intro i  ls hik  hl
        refine lv_iload hx hb d_De_matters_21 (lv_at hl 3 rfl) ?_
        refine lv_bipush (v := nI 96) hx hb d_De_matters_23 (by decide) ?_
        refine lv_icmp_ge (tgt := 50) hx hb d_De_matters_25 (by decide) (fun c9 => absurd c9 (nI_ge (by omega) (by omega))) (fun _ => ?_)
        refine lv_iload_n hx hb d_De_matters_28 rfl (lv_at hl 2 rfl) ?_
        refine lv_aload_n hx hb d_De_matters_29 rfl (lv_at hl 0 rfl) ?_
        refine va_get (D := G.1) (ci := 4) (v := .ref rb) (C := R_De) (T := T_De) (N := 2) hx hb hA in_De hown hK.1 (pl_o hP hx0) 0 rfl rfl 1 (by decide) (hA _ kw_81) (fun _ h9 => h9) rfl d_De_matters_30 ?_
        refine lv_iload_n hx hb d_De_matters_33 rfl (lv_at hl 1 rfl) ?_
        refine lv_iload hx hb d_De_matters_34 (lv_at hl 3 rfl) ?_
        refine vp_callSl (va_Run.run (va_runVN (As := [.int (nI q), .int (nI i)]) (rest := [.int (nI (sumP (tuF vw dn rn q) i))]) ⟨hx, hb, hml, hown, hA⟩ (c_Rb_tuF l G L f hB q i hq (by omega)) ⟨va_cnB 2 hA (gAW kw_93) rfl rfl rfl (hK.2.1 _ kz_22) (hA _ kw_48) (by decide +kernel) ⟨Nat.le_of_ble_eq_true rfl, Nat.le_of_ble_eq_true rfl⟩, (hA _ kw_94), (hA _ kw_95)⟩ (pw_preV (ci := 3) hP hK hB.2.1 rfl) rfl rfl hl.1 rfl (lv_room (Nat.le_of_ble_eq_true rfl)) d_De_matters_36 ⟨Nat.zero_le _, Nat.zero_le _⟩)) (fun r_3 e_4 => ?_)
        subst e_4
        refine vp_callSi (va_Run.run (va_runS (As := [.long (tuF vw dn rn q i)]) (rest := [.int (nI (sumP (tuF vw dn rn q) i))]) ⟨hx, hb, hml, hown, hA⟩ (c_bitCount l G L f (tuF vw dn rn q i)) ⟨callB_of 1 hA (gAW kw_76) rfl rfl rfl (hA _ kw_77) (hA _ kw_78) (by decide +kernel) ⟨Nat.le_of_ble_eq_true rfl, Nat.le_of_ble_eq_true rfl⟩, (hA _ kw_79)⟩ (pw_preS hP hK) rfl rfl hl.1 rfl (lv_room (Nat.le_of_ble_eq_true rfl)) d_De_matters_39 ⟨Nat.zero_le _, Nat.zero_le _⟩)) (fun r_5 e_6 => ?_)
        subst e_6
        refine lv_iadd hx hb d_De_matters_42 ?_
        refine xv_I (y := nI (sumP (tuF vw dn rn q) (i + 1))) (nI_add _ _) ?_
        refine lv_istore_n (lv' := [(3, .int (nI (sumP (tuF vw dn rn q) (i + 1)))), (0, .ref x0), (2, .int (nI q)), (4, .int (nI i))]) hx hb d_De_matters_43 rfl hl (by decide) rfl (fun ls hl => ?_)
        refine lv_iinc (v := nI (i + 1)) (lv' := [(4, .int (nI (i + 1))), (3, .int (nI (sumP (tuF vw dn rn q) (i + 1)))), (0, .ref x0), (2, .int (nI q))]) hx hb d_De_matters_44 hl (k := 3) rfl (nI_1 i) (by decide) rfl (fun ls hl => ?_)
        refine lv_goto (tgt := 21) hx hb d_De_matters_47 (by decide) ?_
        exact ih (i + 1)  ls (by omega)  (lv_sub hl [2, 3, 1, 0] rfl)
    exact loop (96 - 0) 0  ls (by omega)  (lv_sub hl [3, 2, 1, 0] rfl)

set_option maxHeartbeats 4000000 in
set_option maxRecDepth 100000 in
/-- sees -/
theorem c_De_sees (l : Launch) (G : GG) (L : List Nat) (f : Nat → va_E) {x0 cb rb : Nat} (hx0 : Lk L f x0 (.inr (4, [.ref cb, .ref rb]))) {rA rn : Nat} {rad ca wb rk nu : Nat → Nat} {dn : Nat → Bool} {vw : Nat → Nat → Int64} (hB : RuB G L f rb rA rn rad ca wb rk nu dn vw) (x y : Int32) : Met l y_De_sees (.code y_De_sees b_De_sees 7 (some .int) :: AW) (RM 5) (va_Pc [.ref x0, .int x, .int y] (PW G L f)) (vp_Si (fun r => r = onR (fun u => onR (fun v => nI (sumP (fun i => vfR v v 8 &&& alF vw dn (u * 12 + i) rn 0 (-1) 0) 12)) (inN 8 y)) (inN 8 x))) 0 0 (fun _ => False) := by
  refine Met.ofW (cc := b_De_sees) (maxL := 7) (ret := (some .int)) (by decide) rfl ?_
  intro p e s m args below meth c s₁ B hml hv
  obtain ⟨rfl, hP, hK⟩ := hv
  have hx := B.exec
  have hb := B.bytes
  have hr := B.returns
  have hA : ∀ w ∈ AW, w.before _ s = true := fun w h => atoms_spec (ws := (.code y_De_sees b_De_sees 7 (some .int) :: AW)) B.pre w (List.mem_cons_of_mem _ h)
  have hown : s.vm.findClass R_De = some m.cls := findClass_of_methodNamed B.named
  have hlocks := B.notSynchronized
  have hl := lv_entry ([.ref x0, .int x, .int y]) (n := 7) (Nat.le_of_ble_eq_true rfl)
  rw [lg_entry_eq]
  generalize (lg_sl ([.ref x0, .int x, .int y]) ++ List.replicate (7 - (lg_sl ([.ref x0, .int x, .int y])).length) Slot.unset).toArray = ls at hl ⊢
  have hl : lv_has ls 7 [(0, .ref x0), (1, .int x), (2, .int y)] := hl
  have hrn := hB.1
  refine lv_iload_n hx hb d_De_sees_0 rfl (lv_at hl 1 rfl) ?_
  refine lv_bipush (v := nI 8) hx hb d_De_sees_1 (by decide) ?_
  refine vp_callSi (va_Run.run (va_runS (As := [.int x, .int (nI 8)]) (rest := []) ⟨hx, hb, hml, hown, hA⟩ (c_isBelow l G L f (x) (nI 8)) ⟨callB_of 2 hA (gAW kw_4) rfl rfl rfl (hA _ kw_5) (hA _ kw_96) (by decide +kernel) ⟨Nat.le_of_ble_eq_true rfl, Nat.le_of_ble_eq_true rfl⟩, (hA _ kw_6)⟩ (pw_preS hP hK) rfl rfl hl.1 rfl (lv_room (Nat.le_of_ble_eq_true rfl)) d_De_sees_3 ⟨Nat.zero_le _, Nat.zero_le _⟩)) (fun r_1 e_2 => ?_)
  subst e_2
  rcases bcase (blw x (nI 8)) with hb_0 | hb_0
  · refine lv_if_eq (tgt := 18) hx hb d_De_sees_6 (by decide) (fun _ => ?_) (fun c9 => absurd (by rw [hb_0]; rfl) c9)
    refine lv_iconst (v := (-1)) hx hb d_De_sees_18 (by decide) ?_
    exact W.iret (v := (-1)) hx hb hr (fun t9 h9t h9W => ⟨_, rfl, by rw [inN_f hb_0]; rfl, h9t⟩) (fun _ h => nomatch h) d_De_sees_19
  · refine lv_if_eq (tgt := 18) hx hb d_De_sees_6 (by decide) (fun c9 => absurd c9 (by rw [hb_0]; decide)) (fun _ => ?_)
    obtain ⟨u, hu, rfl⟩ := blw_of (by decide) hb_0
    refine lv_iload_n hx hb d_De_sees_9 rfl (lv_at hl 2 rfl) ?_
    refine lv_bipush (v := nI 8) hx hb d_De_sees_10 (by decide) ?_
    refine vp_callSi (va_Run.run (va_runS (As := [.int y, .int (nI 8)]) (rest := []) ⟨hx, hb, hml, hown, hA⟩ (c_isBelow l G L f (y) (nI 8)) ⟨callB_of 2 hA (gAW kw_4) rfl rfl rfl (hA _ kw_5) (hA _ kw_96) (by decide +kernel) ⟨Nat.le_of_ble_eq_true rfl, Nat.le_of_ble_eq_true rfl⟩, (hA _ kw_6)⟩ (pw_preS hP hK) rfl rfl hl.1 rfl (lv_room (Nat.le_of_ble_eq_true rfl)) d_De_sees_12 ⟨Nat.zero_le _, Nat.zero_le _⟩)) (fun r_3 e_4 => ?_)
    subst e_4
    rcases bcase (blw y (nI 8)) with hb_1 | hb_1
    · refine lv_if_ne (tgt := 20) hx hb d_De_sees_15 (by decide) (fun c9 => absurd (by rw [hb_1]; rfl) c9) (fun _ => ?_)
      refine lv_iconst (v := (-1)) hx hb d_De_sees_18 (by decide) ?_
      exact W.iret (v := (-1)) hx hb hr (fun t9 h9t h9W => ⟨_, rfl, by rw [inN_t hu (by decide), inN_f hb_1]; rfl, h9t⟩) (fun _ h => nomatch h) d_De_sees_19
    · refine lv_if_ne (tgt := 20) hx hb d_De_sees_15 (by decide) (fun _ => ?_) (fun c9 => absurd c9 (by rw [hb_1]; decide))
      obtain ⟨v, hv, rfl⟩ := blw_of (by decide) hb_1
      refine lv_iload_n hx hb d_De_sees_20 rfl (lv_at hl 2 rfl) ?_
      refine lv_iload_n hx hb d_De_sees_21 rfl (lv_at hl 2 rfl) ?_
      refine vp_callSl (va_Run.run (va_runS (As := [.int (nI v), .int (nI v)]) (rest := []) ⟨hx, hb, hml, hown, hA⟩ (c_De_vf l G L f v v hv hv) ⟨callB_of 2 hA (gAW kw_41) rfl rfl rfl (hA _ kw_5) (hA _ kw_97) (by decide +kernel) ⟨Nat.le_of_ble_eq_true rfl, Nat.le_of_ble_eq_true rfl⟩, (hA _ kw_42)⟩ (pw_preS hP hK) rfl rfl hl.1 rfl (lv_room (Nat.le_of_ble_eq_true rfl)) d_De_sees_22 ⟨Nat.zero_le _, Nat.zero_le _⟩)) (fun r_5 e_6 => ?_)
      subst e_6
      refine lv_lstore_n (lv' := [(3, .long (vfR v v 8)), (0, .ref x0), (1, .int (nI u)), (2, .int (nI v))]) hx hb d_De_sees_25 rfl hl (by decide) rfl (fun ls hl => ?_)
      refine lv_iconst (v := nI 0) hx hb d_De_sees_26 (by decide) ?_
      refine lv_istore (lv' := [(5, .int (nI 0)), (3, .long (vfR v v 8)), (0, .ref x0), (1, .int (nI u)), (2, .int (nI v))]) hx hb d_De_sees_27 hl (by decide) rfl (fun ls hl => ?_)
      refine lv_iconst (v := nI 0) hx hb d_De_sees_29 (by decide) ?_
      refine lv_istore (lv' := [(6, .int (nI 0)), (5, .int (nI 0)), (3, .long (vfR v v 8)), (0, .ref x0), (1, .int (nI u)), (2, .int (nI v))]) hx hb d_De_sees_30 hl (by decide) rfl (fun ls hl => ?_)
      have loop : ∀ (k i : Nat) (ls : Array Slot), i + k = 12 → lv_has ls 7 [(0, .ref x0), (1, .int (nI u)), (3, .long (vfR v v 8)), (5, .int (nI (sumP (fun i => vfR v v 8 &&& alF vw dn (u * 12 + i) rn 0 (-1) 0) i))), (6, .int (nI i))] → W p l e (headSpec (.code y_De_sees b_De_sees 7 (some .int) :: AW) (RM 5)).room s m ([.ref x0, .int (nI u), .int (nI v)] : List Value).toArray below meth c s.heap [] 0 0 (MQ below (vp_Si (fun r => r = onR (fun u => onR (fun v => nI (sumP (fun i => vfR v v 8 &&& alF vw dn (u * 12 + i) rn 0 (-1) 0) 12)) (inN 8 (nI v))) (inN 8 (nI u)))) ([.ref x0, .int (nI u), .int (nI v)] : List Value).toArray s 0 0 (fun _ => False)) (F0 m 32 ls []) := by
        intro k
        induction k with
        | zero =>
          intro i  ls hik  hl
          refine lv_iload hx hb d_De_sees_32 (lv_at hl 4 rfl) ?_
          refine lv_bipush (v := nI 12) hx hb d_De_sees_34 (by decide) ?_
          refine lv_icmp_ge (tgt := 66) hx hb d_De_sees_36 (by decide) (fun _ => ?_) (fun c9 => absurd (nI_le (by omega) (by omega)) c9)
          refine lv_iload hx hb d_De_sees_66 (lv_at hl 3 rfl) ?_
          exact W.iret (v := nI (sumP (fun i => vfR v v 8 &&& alF vw dn (u * 12 + i) rn 0 (-1) 0) i)) hx hb hr (fun t9 h9t h9W => ⟨_, rfl, by rw [inN_t hu (by decide), inN_t hv (by decide), show i = 12 by omega]; rfl, h9t⟩) (fun _ h => nomatch h) d_De_sees_68
        | succ k ih =>
          intro i  ls hik  hl
          refine lv_iload hx hb d_De_sees_32 (lv_at hl 4 rfl) ?_
          refine lv_bipush (v := nI 12) hx hb d_De_sees_34 (by decide) ?_
          refine lv_icmp_ge (tgt := 66) hx hb d_De_sees_36 (by decide) (fun c9 => absurd c9 (nI_ge (by omega) (by omega))) (fun _ => ?_)
          refine lv_iload hx hb d_De_sees_39 (lv_at hl 3 rfl) ?_
          refine lv_lload_n hx hb d_De_sees_41 rfl (lv_at hl 2 rfl) ?_
          refine lv_aload_n hx hb d_De_sees_42 rfl (lv_at hl 0 rfl) ?_
          refine lv_iload_n hx hb d_De_sees_43 rfl (lv_at hl 1 rfl) ?_
          refine lv_bipush (v := nI 12) hx hb d_De_sees_44 (by decide) ?_
          refine lv_imul hx hb d_De_sees_46 ?_
          refine xv_I (y := nI (u * 12)) (pk_mul _ _) ?_
          refine lv_iload hx hb d_De_sees_47 (lv_at hl 4 rfl) ?_
          refine lv_iadd hx hb d_De_sees_49 ?_
          refine xv_I (y := nI (u * 12 + i)) (nI_add _ _) ?_
          refine vp_callSl (va_Run.run (va_runV (As := [.int (nI (u * 12 + i))]) (rest := [.long (vfR v v 8), .int (nI (sumP (fun i => vfR v v 8 &&& alF vw dn (u * 12 + i) rn 0 (-1) 0) i))]) ⟨hx, hb, hml, hown, hA⟩ (c_De_alIn l G L f hx0 hB (u * 12 + i) (by omega)) ⟨callB_of 1 hA (gAW kw_83) rfl rfl rfl (hA _ kw_5) (hA _ kw_84) (by decide +kernel) ⟨Nat.le_of_ble_eq_true rfl, Nat.le_of_ble_eq_true rfl⟩, (hA _ kw_85), (hA _ kw_86)⟩ (pw_preV (ci := 4) hP hK hx0 rfl) rfl rfl hl.1 rfl (lv_room (Nat.le_of_ble_eq_true rfl)) d_De_sees_50 ⟨Nat.zero_le _, Nat.zero_le _⟩)) (fun r_7 e_8 => ?_)
          subst e_8
          refine lv_land hx hb d_De_sees_53 ?_
          refine vp_callSi (va_Run.run (va_runS (As := [.long ((vfR v v 8) &&& (alF vw dn (u * 12 + i) rn 0 (-1) 0))]) (rest := [.int (nI (sumP (fun i => vfR v v 8 &&& alF vw dn (u * 12 + i) rn 0 (-1) 0) i))]) ⟨hx, hb, hml, hown, hA⟩ (c_bitCount l G L f ((vfR v v 8) &&& (alF vw dn (u * 12 + i) rn 0 (-1) 0))) ⟨callB_of 1 hA (gAW kw_76) rfl rfl rfl (hA _ kw_77) (hA _ kw_78) (by decide +kernel) ⟨Nat.le_of_ble_eq_true rfl, Nat.le_of_ble_eq_true rfl⟩, (hA _ kw_79)⟩ (pw_preS hP hK) rfl rfl hl.1 rfl (lv_room (Nat.le_of_ble_eq_true rfl)) d_De_sees_54 ⟨Nat.zero_le _, Nat.zero_le _⟩)) (fun r_9 e_10 => ?_)
          subst e_10
          refine lv_iadd hx hb d_De_sees_57 ?_
          refine xv_I (y := nI (sumP (fun i => vfR v v 8 &&& alF vw dn (u * 12 + i) rn 0 (-1) 0) (i + 1))) (nI_add _ _) ?_
          refine lv_istore (lv' := [(5, .int (nI (sumP (fun i => vfR v v 8 &&& alF vw dn (u * 12 + i) rn 0 (-1) 0) (i + 1)))), (0, .ref x0), (1, .int (nI u)), (3, .long (vfR v v 8)), (6, .int (nI i))]) hx hb d_De_sees_58 hl (by decide) rfl (fun ls hl => ?_)
          refine lv_iinc (v := nI (i + 1)) (lv' := [(6, .int (nI (i + 1))), (5, .int (nI (sumP (fun i => vfR v v 8 &&& alF vw dn (u * 12 + i) rn 0 (-1) 0) (i + 1)))), (0, .ref x0), (1, .int (nI u)), (3, .long (vfR v v 8))]) hx hb d_De_sees_60 hl (k := 4) rfl (nI_1 i) (by decide) rfl (fun ls hl => ?_)
          refine lv_goto (tgt := 32) hx hb d_De_sees_63 (by decide) ?_
          exact ih (i + 1)  ls (by omega)  (lv_sub hl [2, 3, 4, 1, 0] rfl)
      exact loop (12 - 0) 0  ls (by omega)  (lv_sub hl [3, 4, 2, 1, 0] rfl)

set_option maxHeartbeats 4000000 in
set_option maxRecDepth 100000 in
/-- idle -/
theorem c_De_idle (l : Launch) (G : GG) (L : List Nat) (f : Nat → va_E) {x0 cb rb : Nat} (hx0 : Lk L f x0 (.inr (4, [.ref cb, .ref rb]))) {mA gA cn : Nat} {ad wa kd : Nat → Nat} {ka kb kc : Nat → Int32} {wd : Nat → Nat → Int64} {mm : Nat → Bool} (hC : CoB G L f cb mA gA cn ad wa kd ka kb kc wd mm) {rA rn : Nat} {rad ca wb rk nu : Nat → Nat} {dn : Nat → Bool} {vw : Nat → Nat → Int64} (hB : RuB G L f rb rA rn rad ca wb rk nu dn vw) (tt_ : Bool) (x : Int32) : Met l y_De_idle (.code y_De_idle b_De_idle 6 (some .int) :: AW) (RM 4) (va_Pc [.ref x0, .int (bI tt_), .int x] (PW G L f)) (vp_Si (fun r => r = onR (fun t => nI (maxR (fun j => idF vw rk dn tt_ j rn 0 (wd t j) 0) 96)) (inN cn x))) 0 0 (fun _ => False) := by
  refine Met.ofW (cc := b_De_idle) (maxL := 6) (ret := (some .int)) (by decide) rfl ?_
  intro p e s m args below meth c s₁ B hml hv
  obtain ⟨rfl, hP, hK⟩ := hv
  have hx := B.exec
  have hb := B.bytes
  have hr := B.returns
  have hA : ∀ w ∈ AW, w.before _ s = true := fun w h => atoms_spec (ws := (.code y_De_idle b_De_idle 6 (some .int) :: AW)) B.pre w (List.mem_cons_of_mem _ h)
  have hown : s.vm.findClass R_De = some m.cls := findClass_of_methodNamed B.named
  have hlocks := B.notSynchronized
  have hl := lv_entry ([.ref x0, .int (bI tt_), .int x]) (n := 6) (Nat.le_of_ble_eq_true rfl)
  rw [lg_entry_eq]
  generalize (lg_sl ([.ref x0, .int (bI tt_), .int x]) ++ List.replicate (6 - (lg_sl ([.ref x0, .int (bI tt_), .int x])).length) Slot.unset).toArray = ls at hl ⊢
  have hl : lv_has ls 6 [(0, .ref x0), (1, .int (bI tt_)), (2, .int x)] := hl
  have hcn := hC.1
  have hrn := hB.1
  rcases at60 (ad := ad) hcn x with ⟨t, ht, rfl⟩ | ⟨hnb, hno⟩
  · refine lv_aload_n hx hb d_De_idle_0 rfl (lv_at hl 0 rfl) ?_
    refine va_get (D := G.1) (ci := 4) (v := .ref cb) (C := R_De) (T := T_De) (N := 2) hx hb hA in_De hown hK.1 (pl_o hP hx0) 0 rfl rfl 0 (by decide) (hA _ kw_80) (fun _ h9 => h9) rfl d_De_idle_1 ?_
    refine lv_iload_n hx hb d_De_idle_4 rfl (lv_at hl 2 rfl) ?_
    refine va_csq (va_Run.run (va_runVN (As := [.int (nI t)]) (rest := []) ⟨hx, hb, hml, hown, hA⟩ (c_Cb_at l G L f hC.2.1 hC.2.2.1 (nI t)) ⟨va_cnB 1 hA (gAW kw_18) rfl rfl rfl (hK.2.1 _ kz_18) (hA _ kw_19) (by decide +kernel) ⟨Nat.le_of_ble_eq_true rfl, Nat.le_of_ble_eq_true rfl⟩, (hA _ kw_21), (hA _ kw_22)⟩ (pw_preV (ci := 1) hP hK hC.2.1 rfl) rfl rfl hl.1 rfl (lv_room (Nat.le_of_ble_eq_true rfl)) d_De_idle_5 ⟨Nat.zero_le _, Nat.zero_le _⟩)) (fun r_1 e_2 => ?_)
    subst e_2
    refine xv_R (a := ad t) (oAt_t (by decide) hcn ht) ?_
    refine lv_astore_n (lv' := [(3, .ref (ad t)), (0, .ref x0), (1, .int (bI tt_)), (2, .int (nI t))]) hx hb d_De_idle_8 rfl hl (by decide) rfl (fun ls hl => ?_)
    refine lv_aload_n hx hb d_De_idle_9 rfl (lv_at hl 0 rfl) ?_
    refine lv_ifnonnull (tgt := 15) hx hb d_De_idle_10 (by decide) ?_
    refine lv_iconst (v := nI 0) hx hb d_De_idle_15 (by decide) ?_
    refine lv_istore (lv' := [(4, .int (nI 0)), (3, .ref (ad t)), (0, .ref x0), (1, .int (bI tt_)), (2, .int (nI t))]) hx hb d_De_idle_16 hl (by decide) rfl (fun ls hl => ?_)
    refine lv_iconst (v := nI 0) hx hb d_De_idle_18 (by decide) ?_
    refine lv_istore (lv' := [(5, .int (nI 0)), (4, .int (nI 0)), (3, .ref (ad t)), (0, .ref x0), (1, .int (bI tt_)), (2, .int (nI t))]) hx hb d_De_idle_19 hl (by decide) rfl (fun ls hl => ?_)
    have loop : ∀ (k i : Nat) (ls : Array Slot), i + k = 96 → lv_has ls 6 [(0, .ref x0), (1, .int (bI tt_)), (3, .ref (ad t)), (4, .int (nI (maxR (fun j => idF vw rk dn tt_ j rn 0 (wd t j) 0) i))), (5, .int (nI i))] → W p l e (headSpec (.code y_De_idle b_De_idle 6 (some .int) :: AW) (RM 4)).room s m ([.ref x0, .int (bI tt_), .int (nI t)] : List Value).toArray below meth c s.heap [] 0 0 (MQ below (vp_Si (fun r => r = onR (fun t => nI (maxR (fun j => idF vw rk dn tt_ j rn 0 (wd t j) 0) 96)) (inN cn (nI t)))) ([.ref x0, .int (bI tt_), .int (nI t)] : List Value).toArray s 0 0 (fun _ => False)) (F0 m 21 ls []) := by
      intro k
      induction k with
      | zero =>
        intro i  ls hik  hl
        refine lv_iload hx hb d_De_idle_21 (lv_at hl 4 rfl) ?_
        refine lv_bipush (v := nI 96) hx hb d_De_idle_23 (by decide) ?_
        refine lv_icmp_ge (tgt := 57) hx hb d_De_idle_25 (by decide) (fun _ => ?_) (fun c9 => absurd (nI_le (by omega) (by omega)) c9)
        refine lv_iload hx hb d_De_idle_57 (lv_at hl 3 rfl) ?_
        exact W.iret (v := nI (maxR (fun j => idF vw rk dn tt_ j rn 0 (wd t j) 0) i)) hx hb hr (fun t9 h9t h9W => ⟨_, rfl, by rw [inN_t ht (by omega), show i = 96 by omega]; rfl, h9t⟩) (fun _ h => nomatch h) d_De_idle_59
      | succ k ih =>
        intro i  ls hik  hl
        refine lv_iload hx hb d_De_idle_21 (lv_at hl 4 rfl) ?_
        refine lv_bipush (v := nI 96) hx hb d_De_idle_23 (by decide) ?_
        refine lv_icmp_ge (tgt := 57) hx hb d_De_idle_25 (by decide) (fun c9 => absurd c9 (nI_ge (by omega) (by omega))) (fun _ => ?_)
        refine lv_iload hx hb d_De_idle_28 (lv_at hl 3 rfl) ?_
        refine lv_aload_n hx hb d_De_idle_30 rfl (lv_at hl 0 rfl) ?_
        refine va_get (D := G.1) (ci := 4) (v := .ref rb) (C := R_De) (T := T_De) (N := 2) hx hb hA in_De hown hK.1 (pl_o hP hx0) 0 rfl rfl 1 (by decide) (hA _ kw_81) (fun _ h9 => h9) rfl d_De_idle_31 ?_
        refine lv_iload_n hx hb d_De_idle_34 rfl (lv_at hl 1 rfl) ?_
        refine lv_aload_n hx hb d_De_idle_35 rfl (lv_at hl 2 rfl) ?_
        refine lv_iload hx hb d_De_idle_36 (lv_at hl 4 rfl) ?_
        refine vp_callSl (va_Run.run (va_runVN (As := [.int (nI i)]) (rest := [.int (bI tt_), .ref rb, .int (nI (maxR (fun j => idF vw rk dn tt_ j rn 0 (wd t j) 0) i))]) ⟨hx, hb, hml, hown, hA⟩ (c_Co_word l G L f (hC.2.2.2.2 t ht).1 (hC.2.2.2.2 t ht).2 i (by omega)) ⟨va_cnB 1 hA (gAW kw_10) rfl rfl rfl (hK.2.1 _ kz_19) (hA _ kw_11) (by decide +kernel) ⟨Nat.le_of_ble_eq_true rfl, Nat.le_of_ble_eq_true rfl⟩, (hA _ kw_12), (hA _ kw_13)⟩ (pw_preV (ci := 0) hP hK ((hC.2.2.2.2 t ht).1) rfl) rfl rfl hl.1 rfl (lv_room (Nat.le_of_ble_eq_true rfl)) d_De_idle_38 ⟨Nat.zero_le _, Nat.zero_le _⟩)) (fun r_3 e_4 => ?_)
        subst e_4
        refine lv_iload hx hb d_De_idle_41 (lv_at hl 4 rfl) ?_
        refine vp_callSi (va_Run.run (va_runVN (As := [.int (bI tt_), .long (wd t i), .int (nI i)]) (rest := [.int (nI (maxR (fun j => idF vw rk dn tt_ j rn 0 (wd t j) 0) i))]) ⟨hx, hb, hml, hown, hA⟩ (c_Rb_idF l G L f hB tt_ (wd t i) i (by omega)) ⟨va_cnB 3 hA (gAW kw_98) rfl rfl rfl (hK.2.1 _ kz_23) (hA _ kw_48) (by decide +kernel) ⟨Nat.le_of_ble_eq_true rfl, Nat.le_of_ble_eq_true rfl⟩, (hA _ kw_99), (hA _ kw_100)⟩ (pw_preV (ci := 3) hP hK hB.2.1 rfl) rfl rfl hl.1 rfl (lv_room (Nat.le_of_ble_eq_true rfl)) d_De_idle_43 ⟨Nat.zero_le _, Nat.zero_le _⟩)) (fun r_5 e_6 => ?_)
        subst e_6
        refine va_mmax hx hb (by rw [hml]; exact hl.1.symm) hown (hA _ kw_101) (hA _ kw_102) (hA _ kw_103) (hA _ kw_104) (Nat.le_of_ble_eq_true rfl) (Nat.le_of_ble_eq_true rfl) (Nat.zero_le _) (Nat.zero_le _) d_De_idle_46 ?_
        refine xv_I (y := nI (maxR (fun j => idF vw rk dn tt_ j rn 0 (wd t j) 0) (i + 1))) (nI_max (maxR_le (fun j => idF_le hB.1 (fun q hq => (hB.2.2.2 q hq).1)) i) (idF_le hB.1 (fun q hq => (hB.2.2.2 q hq).1))) ?_
        refine lv_istore (lv' := [(4, .int (nI (maxR (fun j => idF vw rk dn tt_ j rn 0 (wd t j) 0) (i + 1)))), (0, .ref x0), (1, .int (bI tt_)), (3, .ref (ad t)), (5, .int (nI i))]) hx hb d_De_idle_49 hl (by decide) rfl (fun ls hl => ?_)
        refine lv_iinc (v := nI (i + 1)) (lv' := [(5, .int (nI (i + 1))), (4, .int (nI (maxR (fun j => idF vw rk dn tt_ j rn 0 (wd t j) 0) (i + 1)))), (0, .ref x0), (1, .int (bI tt_)), (3, .ref (ad t))]) hx hb d_De_idle_51 hl (k := 4) rfl (nI_1 i) (by decide) rfl (fun ls hl => ?_)
        refine lv_goto (tgt := 21) hx hb d_De_idle_54 (by decide) ?_
        exact ih (i + 1)  ls (by omega)  (lv_sub hl [2, 3, 4, 1, 0] rfl)
    exact loop (96 - 0) 0  ls (by omega)  (lv_sub hl [3, 4, 2, 1, 0] rfl)
  · refine lv_aload_n hx hb d_De_idle_0 rfl (lv_at hl 0 rfl) ?_
    refine va_get (D := G.1) (ci := 4) (v := .ref cb) (C := R_De) (T := T_De) (N := 2) hx hb hA in_De hown hK.1 (pl_o hP hx0) 0 rfl rfl 0 (by decide) (hA _ kw_80) (fun _ h9 => h9) rfl d_De_idle_1 ?_
    refine lv_iload_n hx hb d_De_idle_4 rfl (lv_at hl 2 rfl) ?_
    refine va_csq (va_Run.run (va_runVN (As := [.int x]) (rest := []) ⟨hx, hb, hml, hown, hA⟩ (c_Cb_at l G L f hC.2.1 hC.2.2.1 (x)) ⟨va_cnB 1 hA (gAW kw_18) rfl rfl rfl (hK.2.1 _ kz_18) (hA _ kw_19) (by decide +kernel) ⟨Nat.le_of_ble_eq_true rfl, Nat.le_of_ble_eq_true rfl⟩, (hA _ kw_21), (hA _ kw_22)⟩ (pw_preV (ci := 1) hP hK hC.2.1 rfl) rfl rfl hl.1 rfl (lv_room (Nat.le_of_ble_eq_true rfl)) d_De_idle_5 ⟨Nat.zero_le _, Nat.zero_le _⟩)) (fun r_7 e_8 => ?_)
    subst e_8
    refine xv_N hno ?_
    refine lv_astore_nN (lv' := [(3, .null), (0, .ref x0), (1, .int (bI tt_)), (2, .int x)]) hx hb d_De_idle_8 rfl hl (by decide) rfl (fun ls hl => ?_)
    refine lv_aload_nN hx hb d_De_idle_9 rfl (lv_at hl 0 rfl) ?_
    refine lv_ifnonnullN hx hb d_De_idle_10 ?_
    refine lv_iconst (v := (-1)) hx hb d_De_idle_13 (by decide) ?_
    exact W.iret (v := (-1)) hx hb hr (fun t9 h9t h9W => ⟨_, rfl, by rw [inN_f hnb]; rfl, h9t⟩) (fun _ h => nomatch h) d_De_idle_14

set_option maxHeartbeats 4000000 in
set_option maxRecDepth 100000 in
/-- apart -/
theorem c_De_apart (l : Launch) (G : GG) (L : List Nat) (f : Nat → va_E) {x0 cb rb : Nat} (hx0 : Lk L f x0 (.inr (4, [.ref cb, .ref rb]))) {rA rn : Nat} {rad ca wb rk nu : Nat → Nat} {dn : Nat → Bool} {vw : Nat → Nat → Int64} (hB : RuB G L f rb rA rn rad ca wb rk nu dn vw) (x y : Int32) : Met l y_De_apart (.code y_De_apart b_De_apart 7 (some .int) :: AW) (RM 5) (va_Pc [.ref x0, .int x, .int y] (PW G L f)) (vp_Si (fun r => r = onR (fun u => onR (fun v => apR (fun i => alF vw dn (u * 12 + i) rn 0 (-1) 0 ^^^ alF vw dn (v * 12 + i) rn 0 (-1) 0) u 12 0) (inN 8 y)) (inN 8 x))) 0 0 (fun _ => False) := by
  refine Met.ofW (cc := b_De_apart) (maxL := 7) (ret := (some .int)) (by decide) rfl ?_
  intro p e s m args below meth c s₁ B hml hv
  obtain ⟨rfl, hP, hK⟩ := hv
  have hx := B.exec
  have hb := B.bytes
  have hr := B.returns
  have hA : ∀ w ∈ AW, w.before _ s = true := fun w h => atoms_spec (ws := (.code y_De_apart b_De_apart 7 (some .int) :: AW)) B.pre w (List.mem_cons_of_mem _ h)
  have hown : s.vm.findClass R_De = some m.cls := findClass_of_methodNamed B.named
  have hlocks := B.notSynchronized
  have hl := lv_entry ([.ref x0, .int x, .int y]) (n := 7) (Nat.le_of_ble_eq_true rfl)
  rw [lg_entry_eq]
  generalize (lg_sl ([.ref x0, .int x, .int y]) ++ List.replicate (7 - (lg_sl ([.ref x0, .int x, .int y])).length) Slot.unset).toArray = ls at hl ⊢
  have hl : lv_has ls 7 [(0, .ref x0), (1, .int x), (2, .int y)] := hl
  have hrn := hB.1
  refine lv_iload_n hx hb d_De_apart_0 rfl (lv_at hl 1 rfl) ?_
  refine lv_bipush (v := nI 8) hx hb d_De_apart_1 (by decide) ?_
  refine vp_callSi (va_Run.run (va_runS (As := [.int x, .int (nI 8)]) (rest := []) ⟨hx, hb, hml, hown, hA⟩ (c_isBelow l G L f (x) (nI 8)) ⟨callB_of 2 hA (gAW kw_4) rfl rfl rfl (hA _ kw_5) (hA _ kw_96) (by decide +kernel) ⟨Nat.le_of_ble_eq_true rfl, Nat.le_of_ble_eq_true rfl⟩, (hA _ kw_6)⟩ (pw_preS hP hK) rfl rfl hl.1 rfl (lv_room (Nat.le_of_ble_eq_true rfl)) d_De_apart_3 ⟨Nat.zero_le _, Nat.zero_le _⟩)) (fun r_1 e_2 => ?_)
  subst e_2
  rcases bcase (blw x (nI 8)) with hb_0 | hb_0
  · refine lv_if_eq (tgt := 18) hx hb d_De_apart_6 (by decide) (fun _ => ?_) (fun c9 => absurd (by rw [hb_0]; rfl) c9)
    refine lv_iconst (v := (-1)) hx hb d_De_apart_18 (by decide) ?_
    exact W.iret (v := (-1)) hx hb hr (fun t9 h9t h9W => ⟨_, rfl, by rw [inN_f hb_0]; rfl, h9t⟩) (fun _ h => nomatch h) d_De_apart_19
  · refine lv_if_eq (tgt := 18) hx hb d_De_apart_6 (by decide) (fun c9 => absurd c9 (by rw [hb_0]; decide)) (fun _ => ?_)
    obtain ⟨u, hu, rfl⟩ := blw_of (by decide) hb_0
    refine lv_iload_n hx hb d_De_apart_9 rfl (lv_at hl 2 rfl) ?_
    refine lv_bipush (v := nI 8) hx hb d_De_apart_10 (by decide) ?_
    refine vp_callSi (va_Run.run (va_runS (As := [.int y, .int (nI 8)]) (rest := []) ⟨hx, hb, hml, hown, hA⟩ (c_isBelow l G L f (y) (nI 8)) ⟨callB_of 2 hA (gAW kw_4) rfl rfl rfl (hA _ kw_5) (hA _ kw_96) (by decide +kernel) ⟨Nat.le_of_ble_eq_true rfl, Nat.le_of_ble_eq_true rfl⟩, (hA _ kw_6)⟩ (pw_preS hP hK) rfl rfl hl.1 rfl (lv_room (Nat.le_of_ble_eq_true rfl)) d_De_apart_12 ⟨Nat.zero_le _, Nat.zero_le _⟩)) (fun r_3 e_4 => ?_)
    subst e_4
    rcases bcase (blw y (nI 8)) with hb_1 | hb_1
    · refine lv_if_ne (tgt := 20) hx hb d_De_apart_15 (by decide) (fun c9 => absurd (by rw [hb_1]; rfl) c9) (fun _ => ?_)
      refine lv_iconst (v := (-1)) hx hb d_De_apart_18 (by decide) ?_
      exact W.iret (v := (-1)) hx hb hr (fun t9 h9t h9W => ⟨_, rfl, by rw [inN_t hu (by decide), inN_f hb_1]; rfl, h9t⟩) (fun _ h => nomatch h) d_De_apart_19
    · refine lv_if_ne (tgt := 20) hx hb d_De_apart_15 (by decide) (fun _ => ?_) (fun c9 => absurd c9 (by rw [hb_1]; decide))
      obtain ⟨v, hv, rfl⟩ := blw_of (by decide) hb_1
      refine lv_iconst (v := nI 0) hx hb d_De_apart_20 (by decide) ?_
      refine lv_istore_n (lv' := [(3, .int (nI 0)), (0, .ref x0), (1, .int (nI u)), (2, .int (nI v))]) hx hb d_De_apart_21 rfl hl (by decide) rfl (fun ls hl => ?_)
      have loop : ∀ (k i : Nat) (ls : Array Slot), i + k = 12 → apR (fun i => alF vw dn (u * 12 + i) rn 0 (-1) 0 ^^^ alF vw dn (v * 12 + i) rn 0 (-1) 0) u 12 0 = apR (fun i => alF vw dn (u * 12 + i) rn 0 (-1) 0 ^^^ alF vw dn (v * 12 + i) rn 0 (-1) 0) u k i → lv_has ls 7 [(0, .ref x0), (1, .int (nI u)), (2, .int (nI v)), (3, .int (nI i))] → W p l e (headSpec (.code y_De_apart b_De_apart 7 (some .int) :: AW) (RM 5)).room s m ([.ref x0, .int (nI u), .int (nI v)] : List Value).toArray below meth c s.heap [] 0 0 (MQ below (vp_Si (fun r => r = onR (fun u => onR (fun v => apR (fun i => alF vw dn (u * 12 + i) rn 0 (-1) 0 ^^^ alF vw dn (v * 12 + i) rn 0 (-1) 0) u 12 0) (inN 8 (nI v))) (inN 8 (nI u)))) ([.ref x0, .int (nI u), .int (nI v)] : List Value).toArray s 0 0 (fun _ => False)) (F0 m 22 ls []) := by
        intro k
        induction k with
        | zero =>
          intro i  ls hik hres hl
          refine lv_iload_n hx hb d_De_apart_22 rfl (lv_at hl 3 rfl) ?_
          refine lv_bipush (v := nI 12) hx hb d_De_apart_23 (by decide) ?_
          refine lv_icmp_ge (tgt := 81) hx hb d_De_apart_25 (by decide) (fun _ => ?_) (fun c9 => absurd (nI_le (by omega) (by omega)) c9)
          refine lv_bipush (v := (-2)) hx hb d_De_apart_81 (by decide) ?_
          exact W.iret (v := (-2)) hx hb hr (fun t9 h9t h9W => ⟨_, rfl, by rw [inN_t hu (by decide), inN_t hv (by decide)]; exact (hres.trans rfl).symm, h9t⟩) (fun _ h => nomatch h) d_De_apart_83
        | succ k ih =>
          intro i  ls hik hres hl
          refine lv_iload_n hx hb d_De_apart_22 rfl (lv_at hl 3 rfl) ?_
          refine lv_bipush (v := nI 12) hx hb d_De_apart_23 (by decide) ?_
          refine lv_icmp_ge (tgt := 81) hx hb d_De_apart_25 (by decide) (fun c9 => absurd c9 (nI_ge (by omega) (by omega))) (fun _ => ?_)
          refine lv_iload_n hx hb d_De_apart_28 rfl (lv_at hl 1 rfl) ?_
          refine lv_bipush (v := nI 12) hx hb d_De_apart_29 (by decide) ?_
          refine lv_imul hx hb d_De_apart_31 ?_
          refine xv_I (y := nI (u * 12)) (pk_mul _ _) ?_
          refine lv_iload_n hx hb d_De_apart_32 rfl (lv_at hl 3 rfl) ?_
          refine lv_iadd hx hb d_De_apart_33 ?_
          refine xv_I (y := nI (u * 12 + i)) (nI_add _ _) ?_
          refine lv_istore (lv' := [(4, .int (nI (u * 12 + i))), (0, .ref x0), (1, .int (nI u)), (2, .int (nI v)), (3, .int (nI i))]) hx hb d_De_apart_34 hl (by decide) rfl (fun ls hl => ?_)
          refine lv_aload_n hx hb d_De_apart_36 rfl (lv_at hl 1 rfl) ?_
          refine lv_iload hx hb d_De_apart_37 (lv_at hl 0 rfl) ?_
          refine vp_callSl (va_Run.run (va_runV (As := [.int (nI (u * 12 + i))]) (rest := []) ⟨hx, hb, hml, hown, hA⟩ (c_De_alIn l G L f hx0 hB (u * 12 + i) (by omega)) ⟨callB_of 1 hA (gAW kw_83) rfl rfl rfl (hA _ kw_5) (hA _ kw_84) (by decide +kernel) ⟨Nat.le_of_ble_eq_true rfl, Nat.le_of_ble_eq_true rfl⟩, (hA _ kw_85), (hA _ kw_86)⟩ (pw_preV (ci := 4) hP hK hx0 rfl) rfl rfl hl.1 rfl (lv_room (Nat.le_of_ble_eq_true rfl)) d_De_apart_39 ⟨Nat.zero_le _, Nat.zero_le _⟩)) (fun r_5 e_6 => ?_)
          subst e_6
          refine lv_aload_n hx hb d_De_apart_42 rfl (lv_at hl 1 rfl) ?_
          refine lv_iload_n hx hb d_De_apart_43 rfl (lv_at hl 3 rfl) ?_
          refine lv_bipush (v := nI 12) hx hb d_De_apart_44 (by decide) ?_
          refine lv_imul hx hb d_De_apart_46 ?_
          refine xv_I (y := nI (v * 12)) (pk_mul _ _) ?_
          refine lv_iload_n hx hb d_De_apart_47 rfl (lv_at hl 4 rfl) ?_
          refine lv_iadd hx hb d_De_apart_48 ?_
          refine xv_I (y := nI (v * 12 + i)) (nI_add _ _) ?_
          refine vp_callSl (va_Run.run (va_runV (As := [.int (nI (v * 12 + i))]) (rest := [.long (alF vw dn (u * 12 + i) rn 0 (-1) 0)]) ⟨hx, hb, hml, hown, hA⟩ (c_De_alIn l G L f hx0 hB (v * 12 + i) (by omega)) ⟨callB_of 1 hA (gAW kw_83) rfl rfl rfl (hA _ kw_5) (hA _ kw_84) (by decide +kernel) ⟨Nat.le_of_ble_eq_true rfl, Nat.le_of_ble_eq_true rfl⟩, (hA _ kw_85), (hA _ kw_86)⟩ (pw_preV (ci := 4) hP hK hx0 rfl) rfl rfl hl.1 rfl (lv_room (Nat.le_of_ble_eq_true rfl)) d_De_apart_49 ⟨Nat.zero_le _, Nat.zero_le _⟩)) (fun r_7 e_8 => ?_)
          subst e_8
          refine lv_lxor hx hb d_De_apart_52 ?_
          refine lv_lstore (lv' := [(5, .long ((alF vw dn (u * 12 + i) rn 0 (-1) 0) ^^^ (alF vw dn (v * 12 + i) rn 0 (-1) 0))), (4, .int (nI (u * 12 + i))), (0, .ref x0), (1, .int (nI u)), (2, .int (nI v)), (3, .int (nI i))]) hx hb d_De_apart_53 hl (by decide) rfl (fun ls hl => ?_)
          refine lv_lload hx hb d_De_apart_55 (lv_at hl 0 rfl) ?_
          refine lv_lconst (v := 0) hx hb d_De_apart_57 (by decide) ?_
          refine W.lcmp hx hb d_De_apart_58 ?_
          by_cases hz : alF vw dn (u * 12 + i) rn 0 (-1) 0 ^^^ alF vw dn (v * 12 + i) rn 0 (-1) 0 = 0
          · refine lv_if_eq (tgt := 75) hx hb d_De_apart_59 (by decide) (fun _ => ?_) (fun c9 => absurd ((lg_cmp_eq _ _).mpr hz) c9)
            refine lv_iinc (v := nI (i + 1)) (lv' := [(3, .int (nI (i + 1))), (5, .long ((alF vw dn (u * 12 + i) rn 0 (-1) 0) ^^^ (alF vw dn (v * 12 + i) rn 0 (-1) 0))), (4, .int (nI (u * 12 + i))), (0, .ref x0), (1, .int (nI u)), (2, .int (nI v))]) hx hb d_De_apart_75 hl (k := 5) rfl (nI_1 i) (by decide) rfl (fun ls hl => ?_)
            refine lv_goto (tgt := 22) hx hb d_De_apart_78 (by decide) ?_
            exact ih (i + 1)  ls (by omega) (hres.trans (if_pos hz)) (lv_sub hl [3, 4, 5, 0] rfl)
          · refine lv_if_eq (tgt := 75) hx hb d_De_apart_59 (by decide) (fun c9 => absurd c9 (fun z => hz ((lg_cmp_eq _ _).mp z))) (fun _ => ?_)
            refine lv_iload hx hb d_De_apart_62 (lv_at hl 1 rfl) ?_
            refine lv_bipush (v := nI 64) hx hb d_De_apart_64 (by decide) ?_
            refine lv_imul hx hb d_De_apart_66 ?_
            refine xv_I (y := nI ((u * 12 + i) * 64)) (pk_mul _ _) ?_
            refine lv_lload hx hb d_De_apart_67 (lv_at hl 0 rfl) ?_
            refine lv_iconst (v := nI 0) hx hb d_De_apart_69 (by decide) ?_
            refine vp_callSi (va_Run.run (va_runS (As := [.long ((alF vw dn (u * 12 + i) rn 0 (-1) 0) ^^^ (alF vw dn (v * 12 + i) rn 0 (-1) 0)), .int (nI 0)]) (rest := [.int (nI ((u * 12 + i) * 64))]) ⟨hx, hb, hml, hown, hA⟩ (c_De_bp l G L f (alF vw dn (u * 12 + i) rn 0 (-1) 0 ^^^ alF vw dn (v * 12 + i) rn 0 (-1) 0) 0 (by omega)) ⟨callB_of 2 hA (gAW kw_87) rfl rfl rfl (hA _ kw_5) (hA _ kw_88) (by decide +kernel) ⟨Nat.le_of_ble_eq_true rfl, Nat.le_of_ble_eq_true rfl⟩, (hA _ kw_89)⟩ (pw_preS hP hK) rfl rfl hl.1 rfl (lv_room (Nat.le_of_ble_eq_true rfl)) d_De_apart_70 ⟨Nat.zero_le _, Nat.zero_le _⟩)) (fun r_9 e_10 => ?_)
            subst e_10
            refine lv_iadd hx hb d_De_apart_73 ?_
            refine xv_I (y := nI ((u * 12 + i) * 64 + bpos (alF vw dn (u * 12 + i) rn 0 (-1) 0 ^^^ alF vw dn (v * 12 + i) rn 0 (-1) 0) 0)) (nI_add _ _) ?_
            exact W.iret (v := nI ((u * 12 + i) * 64 + bpos (alF vw dn (u * 12 + i) rn 0 (-1) 0 ^^^ alF vw dn (v * 12 + i) rn 0 (-1) 0) 0)) hx hb hr (fun t9 h9t h9W => ⟨_, rfl, by rw [inN_t hu (by decide), inN_t hv (by decide)]; exact (hres.trans (if_neg hz)).symm, h9t⟩) (fun _ h => nomatch h) d_De_apart_74
      exact loop (12 - 0) 0  ls (by omega) rfl (lv_sub hl [1, 2, 3, 0] rfl)

set_option maxHeartbeats 4000000 in
set_option maxRecDepth 100000 in
/-- may -/
theorem c_De_may (l : Launch) (G : GG) (L : List Nat) (f : Nat → va_E) {x0 cb rb : Nat} (hx0 : Lk L f x0 (.inr (4, [.ref cb, .ref rb]))) {rA rn : Nat} {rad ca wb rk nu : Nat → Nat} {dn : Nat → Bool} {vw : Nat → Nat → Int64} (hB : RuB G L f rb rA rn rad ca wb rk nu dn vw) (x1 x2 x3 x4 x5 x6 : Int32) : Met l y_De_may (.code y_De_may b_De_may 9 (some .int) :: AW) (RM 4) (va_Pc [.ref x0, .int x1, .int x2, .int x3, .int x4, .int x5, .int x6] (PW G L f)) (vp_Si (fun r => r = onR (fun u => onR (fun gr => onR (fun pr => onR (fun kl => onR (fun v => onR (fun wh => mayR nu dn wh (fst0 (hit vw (aNo u gr pr kl v)) rn 0)) (inN 2 x6)) (inN 8 x5)) (inN 4 x4)) (inN 6 x3)) (inN 4 x2)) (inN 8 x1))) 0 0 (fun _ => False) := by
  refine Met.ofW (cc := b_De_may) (maxL := 9) (ret := (some .int)) (by decide) rfl ?_
  intro p e s m args below meth c s₁ B hml hv
  obtain ⟨rfl, hP, hK⟩ := hv
  have hx := B.exec
  have hb := B.bytes
  have hr := B.returns
  have hA : ∀ w ∈ AW, w.before _ s = true := fun w h => atoms_spec (ws := (.code y_De_may b_De_may 9 (some .int) :: AW)) B.pre w (List.mem_cons_of_mem _ h)
  have hown : s.vm.findClass R_De = some m.cls := findClass_of_methodNamed B.named
  have hlocks := B.notSynchronized
  have hl := lv_entry ([.ref x0, .int x1, .int x2, .int x3, .int x4, .int x5, .int x6]) (n := 9) (Nat.le_of_ble_eq_true rfl)
  rw [lg_entry_eq]
  generalize (lg_sl ([.ref x0, .int x1, .int x2, .int x3, .int x4, .int x5, .int x6]) ++ List.replicate (9 - (lg_sl ([.ref x0, .int x1, .int x2, .int x3, .int x4, .int x5, .int x6])).length) Slot.unset).toArray = ls at hl ⊢
  have hl : lv_has ls 9 [(0, .ref x0), (1, .int x1), (2, .int x2), (3, .int x3), (4, .int x4), (5, .int x5), (6, .int x6)] := hl
  have hrn := hB.1
  refine lv_iload_n hx hb d_De_may_0 rfl (lv_at hl 1 rfl) ?_
  refine lv_bipush (v := nI 8) hx hb d_De_may_1 (by decide) ?_
  refine vp_callSi (va_Run.run (va_runS (As := [.int x1, .int (nI 8)]) (rest := []) ⟨hx, hb, hml, hown, hA⟩ (c_isBelow l G L f (x1) (nI 8)) ⟨callB_of 2 hA (gAW kw_4) rfl rfl rfl (hA _ kw_5) (hA _ kw_96) (by decide +kernel) ⟨Nat.le_of_ble_eq_true rfl, Nat.le_of_ble_eq_true rfl⟩, (hA _ kw_6)⟩ (pw_preS hP hK) rfl rfl hl.1 rfl (lv_room (Nat.le_of_ble_eq_true rfl)) d_De_may_3 ⟨Nat.zero_le _, Nat.zero_le _⟩)) (fun r_1 e_2 => ?_)
  subst e_2
  rcases bcase (blw x1 (nI 8)) with hb_0 | hb_0
  · refine lv_if_eq (tgt := 54) hx hb d_De_may_6 (by decide) (fun _ => ?_) (fun c9 => absurd (by rw [hb_0]; rfl) c9)
    refine lv_iconst (v := (-1)) hx hb d_De_may_54 (by decide) ?_
    exact W.iret (v := (-1)) hx hb hr (fun t9 h9t h9W => ⟨_, rfl, by rw [inN_f hb_0]; rfl, h9t⟩) (fun _ h => nomatch h) d_De_may_55
  · refine lv_if_eq (tgt := 54) hx hb d_De_may_6 (by decide) (fun c9 => absurd c9 (by rw [hb_0]; decide)) (fun _ => ?_)
    obtain ⟨u, hu, rfl⟩ := blw_of (by decide) hb_0
    refine lv_iload_n hx hb d_De_may_9 rfl (lv_at hl 2 rfl) ?_
    refine lv_iconst (v := nI 4) hx hb d_De_may_10 (by decide) ?_
    refine vp_callSi (va_Run.run (va_runS (As := [.int x2, .int (nI 4)]) (rest := []) ⟨hx, hb, hml, hown, hA⟩ (c_isBelow l G L f (x2) (nI 4)) ⟨callB_of 2 hA (gAW kw_4) rfl rfl rfl (hA _ kw_5) (hA _ kw_96) (by decide +kernel) ⟨Nat.le_of_ble_eq_true rfl, Nat.le_of_ble_eq_true rfl⟩, (hA _ kw_6)⟩ (pw_preS hP hK) rfl rfl hl.1 rfl (lv_room (Nat.le_of_ble_eq_true rfl)) d_De_may_11 ⟨Nat.zero_le _, Nat.zero_le _⟩)) (fun r_3 e_4 => ?_)
    subst e_4
    rcases bcase (blw x2 (nI 4)) with hb_1 | hb_1
    · refine lv_if_eq (tgt := 54) hx hb d_De_may_14 (by decide) (fun _ => ?_) (fun c9 => absurd (by rw [hb_1]; rfl) c9)
      refine lv_iconst (v := (-1)) hx hb d_De_may_54 (by decide) ?_
      exact W.iret (v := (-1)) hx hb hr (fun t9 h9t h9W => ⟨_, rfl, by rw [inN_t hu (by decide), inN_f hb_1]; rfl, h9t⟩) (fun _ h => nomatch h) d_De_may_55
    · refine lv_if_eq (tgt := 54) hx hb d_De_may_14 (by decide) (fun c9 => absurd c9 (by rw [hb_1]; decide)) (fun _ => ?_)
      obtain ⟨gr, hgr, rfl⟩ := blw_of (by decide) hb_1
      refine lv_iload_n hx hb d_De_may_17 rfl (lv_at hl 3 rfl) ?_
      refine lv_bipush (v := nI 6) hx hb d_De_may_18 (by decide) ?_
      refine vp_callSi (va_Run.run (va_runS (As := [.int x3, .int (nI 6)]) (rest := []) ⟨hx, hb, hml, hown, hA⟩ (c_isBelow l G L f (x3) (nI 6)) ⟨callB_of 2 hA (gAW kw_4) rfl rfl rfl (hA _ kw_5) (hA _ kw_96) (by decide +kernel) ⟨Nat.le_of_ble_eq_true rfl, Nat.le_of_ble_eq_true rfl⟩, (hA _ kw_6)⟩ (pw_preS hP hK) rfl rfl hl.1 rfl (lv_room (Nat.le_of_ble_eq_true rfl)) d_De_may_20 ⟨Nat.zero_le _, Nat.zero_le _⟩)) (fun r_5 e_6 => ?_)
      subst e_6
      rcases bcase (blw x3 (nI 6)) with hb_2 | hb_2
      · refine lv_if_eq (tgt := 54) hx hb d_De_may_23 (by decide) (fun _ => ?_) (fun c9 => absurd (by rw [hb_2]; rfl) c9)
        refine lv_iconst (v := (-1)) hx hb d_De_may_54 (by decide) ?_
        exact W.iret (v := (-1)) hx hb hr (fun t9 h9t h9W => ⟨_, rfl, by rw [inN_t hu (by decide), inN_t hgr (by decide), inN_f hb_2]; rfl, h9t⟩) (fun _ h => nomatch h) d_De_may_55
      · refine lv_if_eq (tgt := 54) hx hb d_De_may_23 (by decide) (fun c9 => absurd c9 (by rw [hb_2]; decide)) (fun _ => ?_)
        obtain ⟨pr, hpr, rfl⟩ := blw_of (by decide) hb_2
        refine lv_iload hx hb d_De_may_26 (lv_at hl 4 rfl) ?_
        refine lv_iconst (v := nI 4) hx hb d_De_may_28 (by decide) ?_
        refine vp_callSi (va_Run.run (va_runS (As := [.int x4, .int (nI 4)]) (rest := []) ⟨hx, hb, hml, hown, hA⟩ (c_isBelow l G L f (x4) (nI 4)) ⟨callB_of 2 hA (gAW kw_4) rfl rfl rfl (hA _ kw_5) (hA _ kw_96) (by decide +kernel) ⟨Nat.le_of_ble_eq_true rfl, Nat.le_of_ble_eq_true rfl⟩, (hA _ kw_6)⟩ (pw_preS hP hK) rfl rfl hl.1 rfl (lv_room (Nat.le_of_ble_eq_true rfl)) d_De_may_29 ⟨Nat.zero_le _, Nat.zero_le _⟩)) (fun r_7 e_8 => ?_)
        subst e_8
        rcases bcase (blw x4 (nI 4)) with hb_3 | hb_3
        · refine lv_if_eq (tgt := 54) hx hb d_De_may_32 (by decide) (fun _ => ?_) (fun c9 => absurd (by rw [hb_3]; rfl) c9)
          refine lv_iconst (v := (-1)) hx hb d_De_may_54 (by decide) ?_
          exact W.iret (v := (-1)) hx hb hr (fun t9 h9t h9W => ⟨_, rfl, by rw [inN_t hu (by decide), inN_t hgr (by decide), inN_t hpr (by decide), inN_f hb_3]; rfl, h9t⟩) (fun _ h => nomatch h) d_De_may_55
        · refine lv_if_eq (tgt := 54) hx hb d_De_may_32 (by decide) (fun c9 => absurd c9 (by rw [hb_3]; decide)) (fun _ => ?_)
          obtain ⟨kl, hkl, rfl⟩ := blw_of (by decide) hb_3
          refine lv_iload hx hb d_De_may_35 (lv_at hl 5 rfl) ?_
          refine lv_bipush (v := nI 8) hx hb d_De_may_37 (by decide) ?_
          refine vp_callSi (va_Run.run (va_runS (As := [.int x5, .int (nI 8)]) (rest := []) ⟨hx, hb, hml, hown, hA⟩ (c_isBelow l G L f (x5) (nI 8)) ⟨callB_of 2 hA (gAW kw_4) rfl rfl rfl (hA _ kw_5) (hA _ kw_96) (by decide +kernel) ⟨Nat.le_of_ble_eq_true rfl, Nat.le_of_ble_eq_true rfl⟩, (hA _ kw_6)⟩ (pw_preS hP hK) rfl rfl hl.1 rfl (lv_room (Nat.le_of_ble_eq_true rfl)) d_De_may_39 ⟨Nat.zero_le _, Nat.zero_le _⟩)) (fun r_9 e_10 => ?_)
          subst e_10
          rcases bcase (blw x5 (nI 8)) with hb_4 | hb_4
          · refine lv_if_eq (tgt := 54) hx hb d_De_may_42 (by decide) (fun _ => ?_) (fun c9 => absurd (by rw [hb_4]; rfl) c9)
            refine lv_iconst (v := (-1)) hx hb d_De_may_54 (by decide) ?_
            exact W.iret (v := (-1)) hx hb hr (fun t9 h9t h9W => ⟨_, rfl, by rw [inN_t hu (by decide), inN_t hgr (by decide), inN_t hpr (by decide), inN_t hkl (by decide), inN_f hb_4]; rfl, h9t⟩) (fun _ h => nomatch h) d_De_may_55
          · refine lv_if_eq (tgt := 54) hx hb d_De_may_42 (by decide) (fun c9 => absurd c9 (by rw [hb_4]; decide)) (fun _ => ?_)
            obtain ⟨v, hv, rfl⟩ := blw_of (by decide) hb_4
            refine lv_iload hx hb d_De_may_45 (lv_at hl 6 rfl) ?_
            refine lv_iconst (v := nI 2) hx hb d_De_may_47 (by decide) ?_
            refine vp_callSi (va_Run.run (va_runS (As := [.int x6, .int (nI 2)]) (rest := []) ⟨hx, hb, hml, hown, hA⟩ (c_isBelow l G L f (x6) (nI 2)) ⟨callB_of 2 hA (gAW kw_4) rfl rfl rfl (hA _ kw_5) (hA _ kw_96) (by decide +kernel) ⟨Nat.le_of_ble_eq_true rfl, Nat.le_of_ble_eq_true rfl⟩, (hA _ kw_6)⟩ (pw_preS hP hK) rfl rfl hl.1 rfl (lv_room (Nat.le_of_ble_eq_true rfl)) d_De_may_48 ⟨Nat.zero_le _, Nat.zero_le _⟩)) (fun r_11 e_12 => ?_)
            subst e_12
            rcases bcase (blw x6 (nI 2)) with hb_5 | hb_5
            · refine lv_if_ne (tgt := 56) hx hb d_De_may_51 (by decide) (fun c9 => absurd (by rw [hb_5]; rfl) c9) (fun _ => ?_)
              refine lv_iconst (v := (-1)) hx hb d_De_may_54 (by decide) ?_
              exact W.iret (v := (-1)) hx hb hr (fun t9 h9t h9W => ⟨_, rfl, by rw [inN_t hu (by decide), inN_t hgr (by decide), inN_t hpr (by decide), inN_t hkl (by decide), inN_t hv (by decide), inN_f hb_5]; rfl, h9t⟩) (fun _ h => nomatch h) d_De_may_55
            · refine lv_if_ne (tgt := 56) hx hb d_De_may_51 (by decide) (fun _ => ?_) (fun c9 => absurd c9 (by rw [hb_5]; decide))
              obtain ⟨wh, hwh, rfl⟩ := blw_of (by decide) hb_5
              refine lv_iload_n hx hb d_De_may_56 rfl (lv_at hl 1 rfl) ?_
              refine lv_iconst (v := nI 4) hx hb d_De_may_57 (by decide) ?_
              refine lv_imul hx hb d_De_may_58 ?_
              refine xv_I (y := nI (u * 4)) (pk_mul _ _) ?_
              refine lv_iload_n hx hb d_De_may_59 rfl (lv_at hl 2 rfl) ?_
              refine lv_iadd hx hb d_De_may_60 ?_
              refine xv_I (y := nI (u * 4 + gr)) (nI_add _ _) ?_
              refine lv_bipush (v := nI 6) hx hb d_De_may_61 (by decide) ?_
              refine lv_imul hx hb d_De_may_63 ?_
              refine xv_I (y := nI ((u * 4 + gr) * 6)) (pk_mul _ _) ?_
              refine lv_iload_n hx hb d_De_may_64 rfl (lv_at hl 3 rfl) ?_
              refine lv_iadd hx hb d_De_may_65 ?_
              refine xv_I (y := nI ((u * 4 + gr) * 6 + pr)) (nI_add _ _) ?_
              refine lv_iconst (v := nI 4) hx hb d_De_may_66 (by decide) ?_
              refine lv_imul hx hb d_De_may_67 ?_
              refine xv_I (y := nI (((u * 4 + gr) * 6 + pr) * 4)) (pk_mul _ _) ?_
              refine lv_iload hx hb d_De_may_68 (lv_at hl 4 rfl) ?_
              refine lv_iadd hx hb d_De_may_70 ?_
              refine xv_I (y := nI (((u * 4 + gr) * 6 + pr) * 4 + kl)) (nI_add _ _) ?_
              refine lv_bipush (v := nI 8) hx hb d_De_may_71 (by decide) ?_
              refine lv_imul hx hb d_De_may_73 ?_
              refine xv_I (y := nI ((((u * 4 + gr) * 6 + pr) * 4 + kl) * 8)) (pk_mul _ _) ?_
              refine lv_iload hx hb d_De_may_74 (lv_at hl 5 rfl) ?_
              refine lv_iadd hx hb d_De_may_76 ?_
              refine xv_I (y := nI (aNo u gr pr kl v)) (nI_add _ _) ?_
              refine lv_istore (lv' := [(7, .int (nI (aNo u gr pr kl v))), (0, .ref x0), (1, .int (nI u)), (2, .int (nI gr)), (3, .int (nI pr)), (4, .int (nI kl)), (5, .int (nI v)), (6, .int (nI wh))]) hx hb d_De_may_77 hl (by decide) rfl (fun ls hl => ?_)
              refine lv_aload_n hx hb d_De_may_79 rfl (lv_at hl 1 rfl) ?_
              refine va_get (D := G.1) (ci := 4) (v := .ref rb) (C := R_De) (T := T_De) (N := 2) hx hb hA in_De hown hK.1 (pl_o hP hx0) 0 rfl rfl 1 (by decide) (hA _ kw_81) (fun _ h9 => h9) rfl d_De_may_80 ?_
              refine lv_iload hx hb d_De_may_83 (lv_at hl 0 rfl) ?_
              have hno : aNo u gr pr kl v < 6144 := by unfold aNo; omega
              refine va_csq (va_Run.run (va_runVN (As := [.int (nI (aNo u gr pr kl v))]) (rest := []) ⟨hx, hb, hml, hown, hA⟩ (c_Rb_dec l G L f hB (aNo u gr pr kl v) hno) ⟨va_cnB 1 hA (gAW kw_105) rfl rfl rfl (hK.2.1 _ kz_24) (hA _ kw_48) (by decide +kernel) ⟨Nat.le_of_ble_eq_true rfl, Nat.le_of_ble_eq_true rfl⟩, (hA _ kw_106), (hA _ kw_107)⟩ (pw_preV (ci := 3) hP hK hB.2.1 rfl) rfl rfl hl.1 rfl (lv_room (Nat.le_of_ble_eq_true rfl)) d_De_may_85 ⟨Nat.zero_le _, Nat.zero_le _⟩)) (fun r_13 e_14 => ?_)
              subst e_14
              rcases ocase (fst0 (hit vw (aNo u gr pr kl v)) rn 0) with hf | ⟨q, hf⟩
              · refine xv_N (by rw [hf]; rfl) ?_
                refine lv_astoreN (lv' := [(8, .null), (7, .int (nI (aNo u gr pr kl v))), (0, .ref x0), (1, .int (nI u)), (2, .int (nI gr)), (3, .int (nI pr)), (4, .int (nI kl)), (5, .int (nI v)), (6, .int (nI wh))]) hx hb d_De_may_88 hl (by decide) rfl (fun ls hl => ?_)
                refine lv_iload hx hb d_De_may_90 (lv_at hl 8 rfl) ?_
                refine lv_iconst (v := nI 1) hx hb d_De_may_92 (by decide) ?_
                by_cases hw1 : wh = 1
                · obtain rfl : wh = 1 := hw1
                  refine lv_icmp_ne (tgt := 112) hx hb d_De_may_93 (by decide) (fun c9 => absurd rfl c9) (fun _ => ?_)
                  refine lv_aloadN hx hb d_De_may_96 (lv_at hl 0 rfl) ?_
                  refine lv_ifnonnullN hx hb d_De_may_98 ?_
                  refine lv_bipush (v := (-2)) hx hb d_De_may_101 (by decide) ?_
                  refine lv_goto (tgt := 111) hx hb d_De_may_103 (by decide) ?_
                  exact W.iret (v := (-2)) hx hb hr (fun t9 h9t h9W => ⟨_, rfl, by rw [inN_t hu (by decide), inN_t hgr (by decide), inN_t hpr (by decide), inN_t hkl (by decide), inN_t hv (by decide), inN_t hwh (by decide)]; show _ = mayR nu dn 1 (fst0 (hit vw (aNo u gr pr kl v)) rn 0); rw [hf]; rfl, h9t⟩) (fun _ h => nomatch h) d_De_may_111
                · obtain rfl : wh = 0 := by omega
                  refine lv_icmp_ne (tgt := 112) hx hb d_De_may_93 (by decide) (fun _ => ?_) (fun c9 => absurd c9 (by decide))
                  refine lv_aloadN hx hb d_De_may_112 (lv_at hl 0 rfl) ?_
                  refine lv_ifnullN (tgt := 125) hx hb d_De_may_114 (by decide) ?_
                  refine lv_iconst (v := nI 0) hx hb d_De_may_125 (by decide) ?_
                  refine lv_goto (tgt := 130) hx hb d_De_may_126 (by decide) ?_
                  exact W.iret (v := nI 0) hx hb hr (fun t9 h9t h9W => ⟨_, rfl, by rw [inN_t hu (by decide), inN_t hgr (by decide), inN_t hpr (by decide), inN_t hkl (by decide), inN_t hv (by decide), inN_t hwh (by decide)]; show _ = mayR nu dn 0 (fst0 (hit vw (aNo u gr pr kl v)) rn 0); rw [hf]; rfl, h9t⟩) (fun _ h => nomatch h) d_De_may_130
              · have hq : q < rn := by have := (fst0_t hf).2; omega
                refine xv_R (a := rad q) (by rw [hf]; rfl) ?_
                obtain ⟨hrk, hnu, hru, ⟨k0, k1, k2, k3, hco⟩, hwa⟩ := hB.2.2.2 q hq
                refine lv_astore (lv' := [(8, .ref (rad q)), (7, .int (nI (aNo u gr pr kl v))), (0, .ref x0), (1, .int (nI u)), (2, .int (nI gr)), (3, .int (nI pr)), (4, .int (nI kl)), (5, .int (nI v)), (6, .int (nI wh))]) hx hb d_De_may_88 hl (by decide) rfl (fun ls hl => ?_)
                refine lv_iload hx hb d_De_may_90 (lv_at hl 8 rfl) ?_
                refine lv_iconst (v := nI 1) hx hb d_De_may_92 (by decide) ?_
                by_cases hw1 : wh = 1
                · obtain rfl : wh = 1 := hw1
                  refine lv_icmp_ne (tgt := 112) hx hb d_De_may_93 (by decide) (fun c9 => absurd rfl c9) (fun _ => ?_)
                  refine lv_aload hx hb d_De_may_96 (lv_at hl 0 rfl) ?_
                  refine lv_ifnonnull (tgt := 106) hx hb d_De_may_98 (by decide) ?_
                  refine lv_aload hx hb d_De_may_106 (lv_at hl 0 rfl) ?_
                  refine va_getN (D := G.1) (ci := 2) (v := .int (nI (nu q))) (C := R_Ru) (T := T_Ru) (N := 4) hx hb hA in_Ru hown hK.1 (pl_o hP hru) 0 rfl rfl 3 (by decide) (va_Nw.use rfl (hK.2.1 _ kz_25)) (fun _ h9 => h9) rfl d_De_may_108 ?_
                  exact W.iret (v := nI (nu q)) hx hb hr (fun t9 h9t h9W => ⟨_, rfl, by rw [inN_t hu (by decide), inN_t hgr (by decide), inN_t hpr (by decide), inN_t hkl (by decide), inN_t hv (by decide), inN_t hwh (by decide)]; show _ = mayR nu dn 1 (fst0 (hit vw (aNo u gr pr kl v)) rn 0); rw [hf]; rfl, h9t⟩) (fun _ h => nomatch h) d_De_may_111
                · obtain rfl : wh = 0 := by omega
                  refine lv_icmp_ne (tgt := 112) hx hb d_De_may_93 (by decide) (fun _ => ?_) (fun c9 => absurd c9 (by decide))
                  refine lv_aload hx hb d_De_may_112 (lv_at hl 0 rfl) ?_
                  refine lv_ifnull hx hb d_De_may_114 ?_
                  refine lv_aload hx hb d_De_may_117 (lv_at hl 0 rfl) ?_
                  refine va_getN (D := G.1) (ci := 2) (v := .int (bI (dn q))) (C := R_Ru) (T := T_Ru) (N := 4) hx hb hA in_Ru hown hK.1 (pl_o hP hru) 0 rfl rfl 1 (by decide) (va_Nw.use rfl (hK.2.1 _ kz_26)) (fun _ h9 => h9) rfl d_De_may_119 ?_
                  rcases bcase (dn q) with hd | hd
                  · refine lv_if_eq (tgt := 129) hx hb d_De_may_122 (by decide) (fun _ => ?_) (fun c9 => absurd (by rw [hd]; rfl) c9)
                    refine lv_iconst (v := nI 1) hx hb d_De_may_129 (by decide) ?_
                    exact W.iret (v := nI 1) hx hb hr (fun t9 h9t h9W => ⟨_, rfl, by rw [inN_t hu (by decide), inN_t hgr (by decide), inN_t hpr (by decide), inN_t hkl (by decide), inN_t hv (by decide), inN_t hwh (by decide)]; show _ = mayR nu dn 0 (fst0 (hit vw (aNo u gr pr kl v)) rn 0); rw [hf]; show _ = if dn q = true then nI 0 else nI 1; rw [hd]; rfl, h9t⟩) (fun _ h => nomatch h) d_De_may_130
                  · refine lv_if_eq (tgt := 129) hx hb d_De_may_122 (by decide) (fun c9 => absurd c9 (by rw [hd]; decide)) (fun _ => ?_)
                    refine lv_iconst (v := nI 0) hx hb d_De_may_125 (by decide) ?_
                    refine lv_goto (tgt := 130) hx hb d_De_may_126 (by decide) ?_
                    exact W.iret (v := nI 0) hx hb hr (fun t9 h9t h9W => ⟨_, rfl, by rw [inN_t hu (by decide), inN_t hgr (by decide), inN_t hpr (by decide), inN_t hkl (by decide), inN_t hv (by decide), inN_t hwh (by decide)]; show _ = mayR nu dn 0 (fst0 (hit vw (aNo u gr pr kl v)) rn 0); rw [hf]; show _ = if dn q = true then nI 0 else nI 1; rw [hd]; rfl, h9t⟩) (fun _ h => nomatch h) d_De_may_130
end
section
set_option maxHeartbeats 4000000 in
set_option maxRecDepth 100000 in
/-- Condition() -/
theorem c_Co_init (l : Launch) (G : GG) (L : List Nat) (f : Nat → va_E) (sz : Nat) (hN : L.Nodup) {q : Nat} (hq0 : Lk L f q (.inr (0, [.int 0, .int 0, .int 0, .int 0, .null]))) (x1 x2 x3 x4 : Int32) : Met l y_Co_init (.code y_Co_init b_Co_init 5 none :: AW) (RW 1 1 96) (va_Pc [.ref q, .int x1, .int x2, .int x3, .int x4] (PZ G L f sz)) (va_Qv (fun u => Kp (fun a => a = q) L f u ∧ ∃ z, z ∉ L ∧ Lk u.1 u.2 q (.inr (0, [.int x1, .int x2, .int x3, .int x4, .ref z])) ∧ Lk u.1 u.2 z (.inl (G.2 0, 96, .inr (.inl (fun _ => 0))))) (BZ G (Am L sz)) (Am L sz)) 1 96 (Am L sz) := by
  refine Met.ofW (cc := b_Co_init) (maxL := 5) (ret := none) (by decide) rfl ?_
  intro p e s m args below meth c s₁ B hml hv
  obtain ⟨rfl, hsz, hP, hK⟩ := hv
  have hx := B.exec
  have hb := B.bytes
  have hr := B.returns
  have hA : ∀ w ∈ AW, w.before _ s = true := fun w h => atoms_spec (ws := (.code y_Co_init b_Co_init 5 none :: AW)) B.pre w (List.mem_cons_of_mem _ h)
  have hown : s.vm.findClass R_Co = some m.cls := findClass_of_methodNamed B.named
  have hlocks := B.notSynchronized
  have hin : meth.name = "<init>" := (name_of_methodNamed B.named B.method).1
  subst hsz
  have hD : va_D (Am L s.heap.size) (va_pl L f) := pl_D hN (fun _ h => Or.inl h)
  have hA0 : ∀ q, s.heap.size ≤ q → Am L s.heap.size q := fun q h => Or.inr h
  generalize Am L s.heap.size = A at hD hA0 ⊢
  have hS : va_S A s.heap s.heap [] := va_S.rf
  have hkp : Kp (fun a => a = q) L f (L, f) := Kp.rf
  have hl := lv_entry ([.ref q, .int x1, .int x2, .int x3, .int x4]) (n := 5) (Nat.le_of_ble_eq_true rfl)
  rw [lg_entry_eq]
  generalize (lg_sl ([.ref q, .int x1, .int x2, .int x3, .int x4]) ++ List.replicate (5 - (lg_sl ([.ref q, .int x1, .int x2, .int x3, .int x4])).length) Slot.unset).toArray = ls at hl ⊢
  have hl : lv_has ls 5 [(0, .ref q), (1, .int x1), (2, .int x2), (3, .int x3), (4, .int x4)] := hl
  refine lv_aload_n hx hb d_Co_init_0 rfl (lv_at hl 0 rfl) ?_
  refine W.objInit hx hb hown (hA _ kw_108) (hA _ kw_109) (hA _ kw_110) rfl (by rw [hml]; exact hl.1) rfl d_Co_init_1 (Nat.le_of_ble_eq_true rfl) (Nat.le_of_ble_eq_true rfl) ?_
  refine W.eq (g2 := F0 m 4 ls []) rfl ?_
  refine lv_aload_n hx hb d_Co_init_4 rfl (lv_at hl 0 rfl) ?_
  refine lv_iload_n hx hb d_Co_init_5 rfl (lv_at hl 1 rfl) ?_
  refine xw_putF (D := G.1) (ci := 0) (v := .int x1) (ty := .int) (C := R_Co) (T := T_Co) (N := 5) (fs' := [.int x1, .int 0, .int 0, .int 0, .null]) hx hb hA in_Co ty_Co tyok_Co nm_Co hown hK.1 hP hD hS hq0 rfl 0 (by decide) (hA _ kw_111) (fun _ h9 => h9) rfl hin rfl (by decide +kernel) rfl rfl (Nat.le_of_ble_eq_true rfl) d_Co_init_6 rfl (fun H locs hP hD hS => ?_)
  obtain ⟨f_1, ef_1⟩ : ∃ z : Nat → va_E, z = va_up f q (.inr (0, [.int x1, .int 0, .int 0, .int 0, .null])) := ⟨_, rfl⟩
  rw [← ef_1] at hP hD
  have hq0 : Lk L f_1 q (.inr (0, [.int x1, .int 0, .int 0, .int 0, .null])) := by rw [ef_1]; exact Lk.set hq0
  have hkp : Kp (fun a => a = q) L f (L, f_1) := by rw [ef_1]; exact hkp.up rfl
  refine lv_aload_n hx hb d_Co_init_9 rfl (lv_at hl 0 rfl) ?_
  refine lv_iload_n hx hb d_Co_init_10 rfl (lv_at hl 2 rfl) ?_
  refine xw_putF (D := G.1) (ci := 0) (v := .int x2) (ty := .int) (C := R_Co) (T := T_Co) (N := 5) (fs' := [.int x1, .int x2, .int 0, .int 0, .null]) hx hb hA in_Co ty_Co tyok_Co nm_Co hown hK.1 hP hD hS hq0 rfl 1 (by decide) (hA _ kw_112) (fun _ h9 => h9) rfl hin rfl (by decide +kernel) rfl rfl (Nat.le_of_ble_eq_true rfl) d_Co_init_11 rfl (fun H locs hP hD hS => ?_)
  obtain ⟨f_2, ef_2⟩ : ∃ z : Nat → va_E, z = va_up f_1 q (.inr (0, [.int x1, .int x2, .int 0, .int 0, .null])) := ⟨_, rfl⟩
  rw [← ef_2] at hP hD
  have hq0 : Lk L f_2 q (.inr (0, [.int x1, .int x2, .int 0, .int 0, .null])) := by rw [ef_2]; exact Lk.set hq0
  have hkp : Kp (fun a => a = q) L f (L, f_2) := by rw [ef_2]; exact hkp.up rfl
  refine lv_aload_n hx hb d_Co_init_14 rfl (lv_at hl 0 rfl) ?_
  refine lv_iload_n hx hb d_Co_init_15 rfl (lv_at hl 3 rfl) ?_
  refine xw_putF (D := G.1) (ci := 0) (v := .int x3) (ty := .int) (C := R_Co) (T := T_Co) (N := 5) (fs' := [.int x1, .int x2, .int x3, .int 0, .null]) hx hb hA in_Co ty_Co tyok_Co nm_Co hown hK.1 hP hD hS hq0 rfl 2 (by decide) (hA _ kw_113) (fun _ h9 => h9) rfl hin rfl (by decide +kernel) rfl rfl (Nat.le_of_ble_eq_true rfl) d_Co_init_16 rfl (fun H locs hP hD hS => ?_)
  obtain ⟨f_3, ef_3⟩ : ∃ z : Nat → va_E, z = va_up f_2 q (.inr (0, [.int x1, .int x2, .int x3, .int 0, .null])) := ⟨_, rfl⟩
  rw [← ef_3] at hP hD
  have hq0 : Lk L f_3 q (.inr (0, [.int x1, .int x2, .int x3, .int 0, .null])) := by rw [ef_3]; exact Lk.set hq0
  have hkp : Kp (fun a => a = q) L f (L, f_3) := by rw [ef_3]; exact hkp.up rfl
  refine lv_aload_n hx hb d_Co_init_19 rfl (lv_at hl 0 rfl) ?_
  refine lv_iload hx hb d_Co_init_20 (lv_at hl 4 rfl) ?_
  refine xw_putF (D := G.1) (ci := 0) (v := .int x4) (ty := .int) (C := R_Co) (T := T_Co) (N := 5) (fs' := [.int x1, .int x2, .int x3, .int x4, .null]) hx hb hA in_Co ty_Co tyok_Co nm_Co hown hK.1 hP hD hS hq0 rfl 3 (by decide) (hA _ kw_114) (fun _ h9 => h9) rfl hin rfl (by decide +kernel) rfl rfl (Nat.le_of_ble_eq_true rfl) d_Co_init_22 rfl (fun H locs hP hD hS => ?_)
  obtain ⟨f_4, ef_4⟩ : ∃ z : Nat → va_E, z = va_up f_3 q (.inr (0, [.int x1, .int x2, .int x3, .int x4, .null])) := ⟨_, rfl⟩
  rw [← ef_4] at hP hD
  have hq0 : Lk L f_4 q (.inr (0, [.int x1, .int x2, .int x3, .int x4, .null])) := by rw [ef_4]; exact Lk.set hq0
  have hkp : Kp (fun a => a = q) L f (L, f_4) := by rw [ef_4]; exact hkp.up rfl
  refine lv_aload_n hx hb d_Co_init_25 rfl (lv_at hl 0 rfl) ?_
  refine lv_bipush (v := nI 96) hx hb d_Co_init_26 (by decide) ?_
  refine xw_newa (atype := .long) (ty := .long) (a0 := (96, .inr (.inl (fun _ => 0)))) hx hb (hA _ kw_115) rfl hK.1 hP hD hS hA0 0 rfl (fun _ => rfl) (by decide) (show (nI 96).toNatClampNeg = 96 by decide) (by decide) (Nat.le_of_ble_eq_true rfl) (Nat.le_of_ble_eq_true rfl) d_Co_init_28 (fun q_1 H hq_2 hP hD hS => ?_)
  refine W.widen (k := 1) (n := 96) (by omega) (by omega) ?_
  obtain ⟨f_5, ef_5⟩ : ∃ z : Nat → va_E, z = va_up f_4 q_1 (.inl (G.2 0, 96, .inr (.inl (fun _ => 0)))) := ⟨_, rfl⟩
  obtain ⟨L_5, eL_5⟩ : ∃ z : List Nat, z = L ++ [q_1] := ⟨_, rfl⟩
  rw [← ef_5, ← eL_5] at hP hD
  have hq0 : Lk L_5 f_5 q (.inr (0, [.int x1, .int x2, .int x3, .int x4, .null])) := by rw [ef_5, eL_5]; exact Lk.push hq0 hq_2
  have t_1 : Lk L_5 f_5 q_1 (.inl (G.2 0, 96, .inr (.inl (fun _ => 0)))) := by rw [ef_5, eL_5]; exact Lk.new
  have hkp : Kp (fun a => a = q) L f (L_5, f_5) := by rw [ef_5, eL_5]; exact hkp.push hq_2
  refine xw_putF (D := G.1) (ci := 0) (v := .ref q_1) (ty := .array .long) (C := R_Co) (T := T_Co) (N := 5) (fs' := [.int x1, .int x2, .int x3, .int x4, .ref q_1]) hx hb hA in_Co ty_Co tyok_Co nm_Co hown hK.1 hP hD hS hq0 rfl 4 (by decide) (hA _ kw_3) (fun _ h9 => h9) rfl hin rfl (by decide +kernel) rfl rfl (Nat.le_of_ble_eq_true rfl) d_Co_init_30 rfl (fun H locs hP hD hS => ?_)
  have n_3 : q_1 ≠ q := Ne.symm (Lk.neOA hq0 t_1)
  obtain ⟨f_6, ef_6⟩ : ∃ z : Nat → va_E, z = va_up f_5 q (.inr (0, [.int x1, .int x2, .int x3, .int x4, .ref q_1])) := ⟨_, rfl⟩
  rw [← ef_6] at hP hD
  have t_1 : Lk L_5 f_6 q_1 (.inl (G.2 0, 96, .inr (.inl (fun _ => 0)))) := by rw [ef_6]; exact Lk.up t_1 n_3
  have hq0 : Lk L_5 f_6 q (.inr (0, [.int x1, .int x2, .int x3, .int x4, .ref q_1])) := by rw [ef_6]; exact Lk.set hq0
  have hkp : Kp (fun a => a = q) L f (L_5, f_6) := by rw [ef_6]; exact hkp.up rfl
  exact W.vret hx hb hr (fun t9 h9t h9W => ⟨⟨(L_5, f_6), rfl, ⟨hkp, q_1, hq_2, hq0, t_1⟩, by rw [h9t]; exact hP, hD⟩, hS.F h9t⟩) hS.2.2 d_Co_init_33

set_option maxHeartbeats 4000000 in
set_option maxRecDepth 100000 in
/-- Rule() -/
theorem c_Ru_init (l : Launch) (G : GG) (L : List Nat) (f : Nat → va_E) (sz : Nat) (hN : L.Nodup) {q : Nat} (hq0 : Lk L f q (.inr (2, [.int 0, .int 0, .null, .int 0]))) (x1 x2 : Int32) (d3 : Bool) (a4 : Nat) : Met l y_Ru_init (.code y_Ru_init b_Ru_init 5 none :: AW) (RW 1 0 0) (va_Pc [.ref q, .int x1, .int x2, .int (bI d3), .ref a4] (PZ G L f sz)) (va_Qv (fun u => Kp (fun a => a = q) L f u ∧ u.1 = L ∧ Lk u.1 u.2 q (.inr (2, [.int x2, .int (bI d3), .ref a4, .int x1]))) (BZ G (Am L sz)) (Am L sz)) 0 0 (Am L sz) := by
  refine Met.ofW (cc := b_Ru_init) (maxL := 5) (ret := none) (by decide) rfl ?_
  intro p e s m args below meth c s₁ B hml hv
  obtain ⟨rfl, hsz, hP, hK⟩ := hv
  have hx := B.exec
  have hb := B.bytes
  have hr := B.returns
  have hA : ∀ w ∈ AW, w.before _ s = true := fun w h => atoms_spec (ws := (.code y_Ru_init b_Ru_init 5 none :: AW)) B.pre w (List.mem_cons_of_mem _ h)
  have hown : s.vm.findClass R_Ru = some m.cls := findClass_of_methodNamed B.named
  have hlocks := B.notSynchronized
  have hin : meth.name = "<init>" := (name_of_methodNamed B.named B.method).1
  subst hsz
  have hD : va_D (Am L s.heap.size) (va_pl L f) := pl_D hN (fun _ h => Or.inl h)
  have hA0 : ∀ q, s.heap.size ≤ q → Am L s.heap.size q := fun q h => Or.inr h
  generalize Am L s.heap.size = A at hD hA0 ⊢
  have hS : va_S A s.heap s.heap [] := va_S.rf
  have hkp : Kp (fun a => a = q) L f (L, f) := Kp.rf
  have hl := lv_entry ([.ref q, .int x1, .int x2, .int (bI d3), .ref a4]) (n := 5) (Nat.le_of_ble_eq_true rfl)
  rw [lg_entry_eq]
  generalize (lg_sl ([.ref q, .int x1, .int x2, .int (bI d3), .ref a4]) ++ List.replicate (5 - (lg_sl ([.ref q, .int x1, .int x2, .int (bI d3), .ref a4])).length) Slot.unset).toArray = ls at hl ⊢
  have hl : lv_has ls 5 [(0, .ref q), (1, .int x1), (2, .int x2), (3, .int (bI d3)), (4, .ref a4)] := hl
  refine lv_aload_n hx hb d_Ru_init_0 rfl (lv_at hl 0 rfl) ?_
  refine W.objInit hx hb hown (hA _ kw_116) (hA _ kw_109) (hA _ kw_110) rfl (by rw [hml]; exact hl.1) rfl d_Ru_init_1 (Nat.le_of_ble_eq_true rfl) (Nat.le_of_ble_eq_true rfl) ?_
  refine W.eq (g2 := F0 m 4 ls []) rfl ?_
  refine lv_aload_n hx hb d_Ru_init_4 rfl (lv_at hl 0 rfl) ?_
  refine lv_iload_n hx hb d_Ru_init_5 rfl (lv_at hl 1 rfl) ?_
  refine xw_put (D := G.1) (ci := 2) (v := .int x1) (ty := .int) (C := R_Ru) (T := T_Ru) (N := 4) (fs' := [.int 0, .int 0, .null, .int x1]) hx hb hA in_Ru ty_Ru tyok_Ru nm_Ru hown hK.1 hP hD hS hq0 rfl 3 (by decide) (hA _ kw_117) (fun _ h9 => h9) rfl (by decide +kernel) rfl rfl (Nat.le_of_ble_eq_true rfl) d_Ru_init_6 rfl (fun H locs hP hD hS => ?_)
  obtain ⟨f_1, ef_1⟩ : ∃ z : Nat → va_E, z = va_up f q (.inr (2, [.int 0, .int 0, .null, .int x1])) := ⟨_, rfl⟩
  rw [← ef_1] at hP hD
  have hq0 : Lk L f_1 q (.inr (2, [.int 0, .int 0, .null, .int x1])) := by rw [ef_1]; exact Lk.set hq0
  have hkp : Kp (fun a => a = q) L f (L, f_1) := by rw [ef_1]; exact hkp.up rfl
  refine lv_aload_n hx hb d_Ru_init_9 rfl (lv_at hl 0 rfl) ?_
  refine lv_iload_n hx hb d_Ru_init_10 rfl (lv_at hl 2 rfl) ?_
  refine xw_putF (D := G.1) (ci := 2) (v := .int x2) (ty := .int) (C := R_Ru) (T := T_Ru) (N := 4) (fs' := [.int x2, .int 0, .null, .int x1]) hx hb hA in_Ru ty_Ru tyok_Ru nm_Ru hown hK.1 hP hD hS hq0 rfl 0 (by decide) (hA _ kw_14) (fun _ h9 => h9) rfl hin rfl (by decide +kernel) rfl rfl (Nat.le_of_ble_eq_true rfl) d_Ru_init_11 rfl (fun H locs hP hD hS => ?_)
  obtain ⟨f_2, ef_2⟩ : ∃ z : Nat → va_E, z = va_up f_1 q (.inr (2, [.int x2, .int 0, .null, .int x1])) := ⟨_, rfl⟩
  rw [← ef_2] at hP hD
  have hq0 : Lk L f_2 q (.inr (2, [.int x2, .int 0, .null, .int x1])) := by rw [ef_2]; exact Lk.set hq0
  have hkp : Kp (fun a => a = q) L f (L, f_2) := by rw [ef_2]; exact hkp.up rfl
  refine lv_aload_n hx hb d_Ru_init_14 rfl (lv_at hl 0 rfl) ?_
  refine lv_iload_n hx hb d_Ru_init_15 rfl (lv_at hl 3 rfl) ?_
  refine xw_putF (D := G.1) (ci := 2) (v := .int (bI d3)) (ty := .boolean) (C := R_Ru) (T := T_Ru) (N := 4) (fs' := [.int x2, .int (bI d3), .null, .int x1]) hx hb hA in_Ru ty_Ru tyok_Ru nm_Ru hown hK.1 hP hD hS hq0 rfl 1 (by decide) (hA _ kw_15) (fun _ h9 => h9) rfl hin rfl (by decide +kernel) (bI_nar _) (bI_fit _) (Nat.le_of_ble_eq_true rfl) d_Ru_init_16 rfl (fun H locs hP hD hS => ?_)
  obtain ⟨f_3, ef_3⟩ : ∃ z : Nat → va_E, z = va_up f_2 q (.inr (2, [.int x2, .int (bI d3), .null, .int x1])) := ⟨_, rfl⟩
  rw [← ef_3] at hP hD
  have hq0 : Lk L f_3 q (.inr (2, [.int x2, .int (bI d3), .null, .int x1])) := by rw [ef_3]; exact Lk.set hq0
  have hkp : Kp (fun a => a = q) L f (L, f_3) := by rw [ef_3]; exact hkp.up rfl
  refine lv_aload_n hx hb d_Ru_init_19 rfl (lv_at hl 0 rfl) ?_
  refine lv_aload hx hb d_Ru_init_20 (lv_at hl 4 rfl) ?_
  refine xw_putF (D := G.1) (ci := 2) (v := .ref a4) (ty := .object "RightDesk$Condition") (C := R_Ru) (T := T_Ru) (N := 4) (fs' := [.int x2, .int (bI d3), .ref a4, .int x1]) hx hb hA in_Ru ty_Ru tyok_Ru nm_Ru hown hK.1 hP hD hS hq0 rfl 2 (by decide) (hA _ kw_9) (fun _ h9 => h9) rfl hin rfl (by decide +kernel) rfl rfl (Nat.le_of_ble_eq_true rfl) d_Ru_init_22 rfl (fun H locs hP hD hS => ?_)
  obtain ⟨f_4, ef_4⟩ : ∃ z : Nat → va_E, z = va_up f_3 q (.inr (2, [.int x2, .int (bI d3), .ref a4, .int x1])) := ⟨_, rfl⟩
  rw [← ef_4] at hP hD
  have hq0 : Lk L f_4 q (.inr (2, [.int x2, .int (bI d3), .ref a4, .int x1])) := by rw [ef_4]; exact Lk.set hq0
  have hkp : Kp (fun a => a = q) L f (L, f_4) := by rw [ef_4]; exact hkp.up rfl
  exact W.vret hx hb hr (fun t9 h9t h9W => ⟨⟨(L, f_4), rfl, ⟨hkp, rfl, hq0⟩, by rw [h9t]; exact hP, hD⟩, hS.F h9t⟩) hS.2.2 d_Ru_init_25

set_option maxHeartbeats 4000000 in
set_option maxRecDepth 100000 in
/-- ConditionBook() -/
theorem c_Cb_init (l : Launch) (G : GG) (L : List Nat) (f : Nat → va_E) (sz : Nat) (hN : L.Nodup) {q : Nat} (hq0 : Lk L f q (.inr (1, [.null, .null, .int 0]))) : Met l y_Cb_init (.code y_Cb_init b_Cb_init 1 none :: AW) (RW 1 2 124) (va_Pc [.ref q] (PZ G L f sz)) (va_Qv (fun u => Kp (fun a => a = q) L f u ∧ ∃ z1 z2, Lk u.1 u.2 q (.inr (1, [.ref z1, .ref z2, .int (nI 0)])) ∧ Lk u.1 u.2 z1 (.inl (G.2 2, 60, .inr (.inr (.inr (.inr (fun _ => none)))))) ∧ Lk u.1 u.2 z2 (.inl (G.2 1, 64, .inl (fun _ => 0)))) (BZ G (Am L sz)) (Am L sz)) 2 124 (Am L sz) := by
  refine Met.ofW (cc := b_Cb_init) (maxL := 1) (ret := none) (by decide) rfl ?_
  intro p e s m args below meth c s₁ B hml hv
  obtain ⟨rfl, hsz, hP, hK⟩ := hv
  have hx := B.exec
  have hb := B.bytes
  have hr := B.returns
  have hA : ∀ w ∈ AW, w.before _ s = true := fun w h => atoms_spec (ws := (.code y_Cb_init b_Cb_init 1 none :: AW)) B.pre w (List.mem_cons_of_mem _ h)
  have hown : s.vm.findClass R_Cb = some m.cls := findClass_of_methodNamed B.named
  have hlocks := B.notSynchronized
  have hin : meth.name = "<init>" := (name_of_methodNamed B.named B.method).1
  subst hsz
  have hD : va_D (Am L s.heap.size) (va_pl L f) := pl_D hN (fun _ h => Or.inl h)
  have hA0 : ∀ q, s.heap.size ≤ q → Am L s.heap.size q := fun q h => Or.inr h
  generalize Am L s.heap.size = A at hD hA0 ⊢
  have hS : va_S A s.heap s.heap [] := va_S.rf
  have hkp : Kp (fun a => a = q) L f (L, f) := Kp.rf
  have hl := lv_entry ([.ref q]) (n := 1) (Nat.le_of_ble_eq_true rfl)
  rw [lg_entry_eq]
  generalize (lg_sl ([.ref q]) ++ List.replicate (1 - (lg_sl ([.ref q])).length) Slot.unset).toArray = ls at hl ⊢
  have hl : lv_has ls 1 [(0, .ref q)] := hl
  refine lv_aload_n hx hb d_Cb_init_0 rfl (lv_at hl 0 rfl) ?_
  refine W.objInit hx hb hown (hA _ kw_118) (hA _ kw_109) (hA _ kw_110) rfl (by rw [hml]; exact hl.1) rfl d_Cb_init_1 (Nat.le_of_ble_eq_true rfl) (Nat.le_of_ble_eq_true rfl) ?_
  refine W.eq (g2 := F0 m 4 ls []) rfl ?_
  refine lv_aload_n hx hb d_Cb_init_4 rfl (lv_at hl 0 rfl) ?_
  refine lv_bipush (v := nI 60) hx hb d_Cb_init_5 (by decide) ?_
  refine xw_newq (C := "RightDesk$Condition") hx hb hown (hA _ kw_119) hK.2.2.1 hK.1 hP hD hS hA0 2 rfl (by decide) (show (nI 60).toNatClampNeg = 60 by decide) (by decide) (Nat.le_of_ble_eq_true rfl) (Nat.le_of_ble_eq_true rfl) d_Cb_init_7 (fun q_1 H hq_2 hP hD hS => ?_)
  refine W.widen (k := 1) (n := 60) (by omega) (by omega) ?_
  obtain ⟨f_1, ef_1⟩ : ∃ z : Nat → va_E, z = va_up f q_1 (.inl (G.2 2, 60, .inr (.inr (.inr (.inr (fun _ => none)))))) := ⟨_, rfl⟩
  obtain ⟨L_1, eL_1⟩ : ∃ z : List Nat, z = L ++ [q_1] := ⟨_, rfl⟩
  rw [← ef_1, ← eL_1] at hP hD
  have hq0 : Lk L_1 f_1 q (.inr (1, [.null, .null, .int 0])) := by rw [ef_1, eL_1]; exact Lk.push hq0 hq_2
  have t_1 : Lk L_1 f_1 q_1 (.inl (G.2 2, 60, .inr (.inr (.inr (.inr (fun _ => none)))))) := by rw [ef_1, eL_1]; exact Lk.new
  have hkp : Kp (fun a => a = q) L f (L_1, f_1) := by rw [ef_1, eL_1]; exact hkp.push hq_2
  refine xw_putF (D := G.1) (ci := 1) (v := .ref q_1) (ty := .array (.object "RightDesk$Condition")) (C := R_Cb) (T := T_Cb) (N := 3) (fs' := [.ref q_1, .null, .int 0]) hx hb hA in_Cb ty_Cb tyok_Cb nm_Cb hown hK.1 hP hD hS hq0 rfl 0 (by decide) (hA _ kw_7) (fun _ h9 => h9) rfl hin rfl (by decide +kernel) rfl rfl (Nat.le_of_ble_eq_true rfl) d_Cb_init_10 rfl (fun H locs hP hD hS => ?_)
  have n_3 : q_1 ≠ q := Ne.symm (Lk.neOA hq0 t_1)
  obtain ⟨f_2, ef_2⟩ : ∃ z : Nat → va_E, z = va_up f_1 q (.inr (1, [.ref q_1, .null, .int 0])) := ⟨_, rfl⟩
  rw [← ef_2] at hP hD
  have t_1 : Lk L_1 f_2 q_1 (.inl (G.2 2, 60, .inr (.inr (.inr (.inr (fun _ => none)))))) := by rw [ef_2]; exact Lk.up t_1 n_3
  have hq0 : Lk L_1 f_2 q (.inr (1, [.ref q_1, .null, .int 0])) := by rw [ef_2]; exact Lk.set hq0
  have hkp : Kp (fun a => a = q) L f (L_1, f_2) := by rw [ef_2]; exact hkp.up rfl
  refine lv_aload_n hx hb d_Cb_init_13 rfl (lv_at hl 0 rfl) ?_
  refine lv_bipush (v := nI 64) hx hb d_Cb_init_14 (by decide) ?_
  refine xw_newa (atype := .boolean) (ty := .boolean) (a0 := (64, .inl (fun _ => 0))) hx hb (hA _ kw_120) rfl hK.1 hP hD hS hA0 1 rfl (fun _ => rfl) (by decide) (show (nI 64).toNatClampNeg = 64 by decide) (by decide) (Nat.le_of_ble_eq_true rfl) (Nat.le_of_ble_eq_true rfl) d_Cb_init_16 (fun q_4 H hq_5 hP hD hS => ?_)
  refine W.widen (k := 2) (n := 124) (by omega) (by omega) ?_
  obtain ⟨f_3, ef_3⟩ : ∃ z : Nat → va_E, z = va_up f_2 q_4 (.inl (G.2 1, 64, .inl (fun _ => 0))) := ⟨_, rfl⟩
  obtain ⟨L_3, eL_3⟩ : ∃ z : List Nat, z = L_1 ++ [q_4] := ⟨_, rfl⟩
  rw [← ef_3, ← eL_3] at hP hD
  have hq0 : Lk L_3 f_3 q (.inr (1, [.ref q_1, .null, .int 0])) := by rw [ef_3, eL_3]; exact Lk.push hq0 hq_5
  have t_1 : Lk L_3 f_3 q_1 (.inl (G.2 2, 60, .inr (.inr (.inr (.inr (fun _ => none)))))) := by rw [ef_3, eL_3]; exact Lk.push t_1 hq_5
  have t_2 : Lk L_3 f_3 q_4 (.inl (G.2 1, 64, .inl (fun _ => 0))) := by rw [ef_3, eL_3]; exact Lk.new
  have hkp : Kp (fun a => a = q) L f (L_3, f_3) := by rw [ef_3, eL_3]; exact hkp.push hq_5
  refine xw_putF (D := G.1) (ci := 1) (v := .ref q_4) (ty := .array .boolean) (C := R_Cb) (T := T_Cb) (N := 3) (fs' := [.ref q_1, .ref q_4, .int 0]) hx hb hA in_Cb ty_Cb tyok_Cb nm_Cb hown hK.1 hP hD hS hq0 rfl 1 (by decide) (hA _ kw_23) (fun _ h9 => h9) rfl hin rfl (by decide +kernel) rfl rfl (Nat.le_of_ble_eq_true rfl) d_Cb_init_18 rfl (fun H locs hP hD hS => ?_)
  have n_6 : q_1 ≠ q := Ne.symm (Lk.neOA hq0 t_1)
  have n_7 : q_4 ≠ q := Ne.symm (Lk.neOA hq0 t_2)
  obtain ⟨f_4, ef_4⟩ : ∃ z : Nat → va_E, z = va_up f_3 q (.inr (1, [.ref q_1, .ref q_4, .int 0])) := ⟨_, rfl⟩
  rw [← ef_4] at hP hD
  have t_1 : Lk L_3 f_4 q_1 (.inl (G.2 2, 60, .inr (.inr (.inr (.inr (fun _ => none)))))) := by rw [ef_4]; exact Lk.up t_1 n_6
  have t_2 : Lk L_3 f_4 q_4 (.inl (G.2 1, 64, .inl (fun _ => 0))) := by rw [ef_4]; exact Lk.up t_2 n_7
  have hq0 : Lk L_3 f_4 q (.inr (1, [.ref q_1, .ref q_4, .int 0])) := by rw [ef_4]; exact Lk.set hq0
  have hkp : Kp (fun a => a = q) L f (L_3, f_4) := by rw [ef_4]; exact hkp.up rfl
  refine lv_aload_n hx hb d_Cb_init_21 rfl (lv_at hl 0 rfl) ?_
  refine lv_iconst (v := nI 0) hx hb d_Cb_init_22 (by decide) ?_
  refine xw_put (D := G.1) (ci := 1) (v := .int (nI 0)) (ty := .int) (C := R_Cb) (T := T_Cb) (N := 3) (fs' := [.ref q_1, .ref q_4, .int (nI 0)]) hx hb hA in_Cb ty_Cb tyok_Cb nm_Cb hown hK.1 hP hD hS hq0 rfl 2 (by decide) (hA _ kw_24) (fun _ h9 => h9) rfl (by decide +kernel) rfl rfl (Nat.le_of_ble_eq_true rfl) d_Cb_init_23 rfl (fun H locs hP hD hS => ?_)
  have n_8 : q_1 ≠ q := Ne.symm (Lk.neOA hq0 t_1)
  have n_9 : q_4 ≠ q := Ne.symm (Lk.neOA hq0 t_2)
  obtain ⟨f_5, ef_5⟩ : ∃ z : Nat → va_E, z = va_up f_4 q (.inr (1, [.ref q_1, .ref q_4, .int (nI 0)])) := ⟨_, rfl⟩
  rw [← ef_5] at hP hD
  have t_1 : Lk L_3 f_5 q_1 (.inl (G.2 2, 60, .inr (.inr (.inr (.inr (fun _ => none)))))) := by rw [ef_5]; exact Lk.up t_1 n_8
  have t_2 : Lk L_3 f_5 q_4 (.inl (G.2 1, 64, .inl (fun _ => 0))) := by rw [ef_5]; exact Lk.up t_2 n_9
  have hq0 : Lk L_3 f_5 q (.inr (1, [.ref q_1, .ref q_4, .int (nI 0)])) := by rw [ef_5]; exact Lk.set hq0
  have hkp : Kp (fun a => a = q) L f (L_3, f_5) := by rw [ef_5]; exact hkp.up rfl
  exact W.vret hx hb hr (fun t9 h9t h9W => ⟨⟨(L_3, f_5), rfl, ⟨hkp, q_1, q_4, hq0, t_1, t_2⟩, by rw [h9t]; exact hP, hD⟩, hS.F h9t⟩) hS.2.2 d_Cb_init_26

set_option maxHeartbeats 4000000 in
set_option maxRecDepth 100000 in
/-- RuleBook() -/
theorem c_Rb_init (l : Launch) (G : GG) (L : List Nat) (f : Nat → va_E) (sz : Nat) (hN : L.Nodup) {q : Nat} (hq0 : Lk L f q (.inr (3, [.null, .int 0]))) : Met l y_Rb_init (.code y_Rb_init b_Rb_init 1 none :: AW) (RW 1 1 20) (va_Pc [.ref q] (PZ G L f sz)) (va_Qv (fun u => Kp (fun a => a = q) L f u ∧ ∃ z1, Lk u.1 u.2 q (.inr (3, [.ref z1, .int (nI 0)])) ∧ Lk u.1 u.2 z1 (.inl (G.2 3, 20, .inr (.inr (.inr (.inr (fun _ => none))))))) (BZ G (Am L sz)) (Am L sz)) 1 20 (Am L sz) := by
  refine Met.ofW (cc := b_Rb_init) (maxL := 1) (ret := none) (by decide) rfl ?_
  intro p e s m args below meth c s₁ B hml hv
  obtain ⟨rfl, hsz, hP, hK⟩ := hv
  have hx := B.exec
  have hb := B.bytes
  have hr := B.returns
  have hA : ∀ w ∈ AW, w.before _ s = true := fun w h => atoms_spec (ws := (.code y_Rb_init b_Rb_init 1 none :: AW)) B.pre w (List.mem_cons_of_mem _ h)
  have hown : s.vm.findClass R_Rb = some m.cls := findClass_of_methodNamed B.named
  have hlocks := B.notSynchronized
  have hin : meth.name = "<init>" := (name_of_methodNamed B.named B.method).1
  subst hsz
  have hD : va_D (Am L s.heap.size) (va_pl L f) := pl_D hN (fun _ h => Or.inl h)
  have hA0 : ∀ q, s.heap.size ≤ q → Am L s.heap.size q := fun q h => Or.inr h
  generalize Am L s.heap.size = A at hD hA0 ⊢
  have hS : va_S A s.heap s.heap [] := va_S.rf
  have hkp : Kp (fun a => a = q) L f (L, f) := Kp.rf
  have hl := lv_entry ([.ref q]) (n := 1) (Nat.le_of_ble_eq_true rfl)
  rw [lg_entry_eq]
  generalize (lg_sl ([.ref q]) ++ List.replicate (1 - (lg_sl ([.ref q])).length) Slot.unset).toArray = ls at hl ⊢
  have hl : lv_has ls 1 [(0, .ref q)] := hl
  refine lv_aload_n hx hb d_Rb_init_0 rfl (lv_at hl 0 rfl) ?_
  refine W.objInit hx hb hown (hA _ kw_121) (hA _ kw_109) (hA _ kw_110) rfl (by rw [hml]; exact hl.1) rfl d_Rb_init_1 (Nat.le_of_ble_eq_true rfl) (Nat.le_of_ble_eq_true rfl) ?_
  refine W.eq (g2 := F0 m 4 ls []) rfl ?_
  refine lv_aload_n hx hb d_Rb_init_4 rfl (lv_at hl 0 rfl) ?_
  refine lv_bipush (v := nI 20) hx hb d_Rb_init_5 (by decide) ?_
  refine xw_newq (C := "RightDesk$Rule") hx hb hown (hA _ kw_122) hK.2.2.2 hK.1 hP hD hS hA0 3 rfl (by decide) (show (nI 20).toNatClampNeg = 20 by decide) (by decide) (Nat.le_of_ble_eq_true rfl) (Nat.le_of_ble_eq_true rfl) d_Rb_init_7 (fun q_1 H hq_2 hP hD hS => ?_)
  refine W.widen (k := 1) (n := 20) (by omega) (by omega) ?_
  obtain ⟨f_1, ef_1⟩ : ∃ z : Nat → va_E, z = va_up f q_1 (.inl (G.2 3, 20, .inr (.inr (.inr (.inr (fun _ => none)))))) := ⟨_, rfl⟩
  obtain ⟨L_1, eL_1⟩ : ∃ z : List Nat, z = L ++ [q_1] := ⟨_, rfl⟩
  rw [← ef_1, ← eL_1] at hP hD
  have hq0 : Lk L_1 f_1 q (.inr (3, [.null, .int 0])) := by rw [ef_1, eL_1]; exact Lk.push hq0 hq_2
  have t_1 : Lk L_1 f_1 q_1 (.inl (G.2 3, 20, .inr (.inr (.inr (.inr (fun _ => none)))))) := by rw [ef_1, eL_1]; exact Lk.new
  have hkp : Kp (fun a => a = q) L f (L_1, f_1) := by rw [ef_1, eL_1]; exact hkp.push hq_2
  refine xw_putF (D := G.1) (ci := 3) (v := .ref q_1) (ty := .array (.object "RightDesk$Rule")) (C := R_Rb) (T := T_Rb) (N := 2) (fs' := [.ref q_1, .int 0]) hx hb hA in_Rb ty_Rb tyok_Rb nm_Rb hown hK.1 hP hD hS hq0 rfl 0 (by decide) (hA _ kw_8) (fun _ h9 => h9) rfl hin rfl (by decide +kernel) rfl rfl (Nat.le_of_ble_eq_true rfl) d_Rb_init_10 rfl (fun H locs hP hD hS => ?_)
  have n_3 : q_1 ≠ q := Ne.symm (Lk.neOA hq0 t_1)
  obtain ⟨f_2, ef_2⟩ : ∃ z : Nat → va_E, z = va_up f_1 q (.inr (3, [.ref q_1, .int 0])) := ⟨_, rfl⟩
  rw [← ef_2] at hP hD
  have t_1 : Lk L_1 f_2 q_1 (.inl (G.2 3, 20, .inr (.inr (.inr (.inr (fun _ => none)))))) := by rw [ef_2]; exact Lk.up t_1 n_3
  have hq0 : Lk L_1 f_2 q (.inr (3, [.ref q_1, .int 0])) := by rw [ef_2]; exact Lk.set hq0
  have hkp : Kp (fun a => a = q) L f (L_1, f_2) := by rw [ef_2]; exact hkp.up rfl
  refine lv_aload_n hx hb d_Rb_init_13 rfl (lv_at hl 0 rfl) ?_
  refine lv_iconst (v := nI 0) hx hb d_Rb_init_14 (by decide) ?_
  refine xw_put (D := G.1) (ci := 3) (v := .int (nI 0)) (ty := .int) (C := R_Rb) (T := T_Rb) (N := 2) (fs' := [.ref q_1, .int (nI 0)]) hx hb hA in_Rb ty_Rb tyok_Rb nm_Rb hown hK.1 hP hD hS hq0 rfl 1 (by decide) (hA _ kw_59) (fun _ h9 => h9) rfl (by decide +kernel) rfl rfl (Nat.le_of_ble_eq_true rfl) d_Rb_init_15 rfl (fun H locs hP hD hS => ?_)
  have n_4 : q_1 ≠ q := Ne.symm (Lk.neOA hq0 t_1)
  obtain ⟨f_3, ef_3⟩ : ∃ z : Nat → va_E, z = va_up f_2 q (.inr (3, [.ref q_1, .int (nI 0)])) := ⟨_, rfl⟩
  rw [← ef_3] at hP hD
  have t_1 : Lk L_1 f_3 q_1 (.inl (G.2 3, 20, .inr (.inr (.inr (.inr (fun _ => none)))))) := by rw [ef_3]; exact Lk.up t_1 n_4
  have hq0 : Lk L_1 f_3 q (.inr (3, [.ref q_1, .int (nI 0)])) := by rw [ef_3]; exact Lk.set hq0
  have hkp : Kp (fun a => a = q) L f (L_1, f_3) := by rw [ef_3]; exact hkp.up rfl
  exact W.vret hx hb hr (fun t9 h9t h9W => ⟨⟨(L_1, f_3), rfl, ⟨hkp, q_1, hq0, t_1⟩, by rw [h9t]; exact hP, hD⟩, hS.F h9t⟩) hS.2.2 d_Rb_init_18

set_option maxHeartbeats 4000000 in
set_option maxRecDepth 100000 in
/-- Condition.setWord -/
theorem c_Co_setWord (l : Launch) (G : GG) (L : List Nat) (f : Nat → va_E) (sz : Nat) (hN : L.Nodup) {k0 k1 k2 k3 : Int32} {a aw : Nat} {ww : Nat → Int64} (hc : Lk L f a (.inr (0, [.int k0, .int k1, .int k2, .int k3, .ref aw]))) (hw0 : Lk L f aw (.inl (G.2 0, 96, .inr (.inl ww)))) (i : Nat) (hi : i < 96) (v : Int64) : Met l y_Co_setWord (.code y_Co_setWord b_Co_setWord 4 none :: AW) (RW 1 0 0) (va_Pc [.ref a, .int (nI i), .long v] (PZ G L f sz)) (va_Qv (fun u => u.1 = L ∧ u.2 = va_up f aw (.inl (G.2 0, 96, .inr (.inl (vp_updL ww i v))))) (BZ G (Am L sz)) (Am L sz)) 0 0 (Am L sz) := by
  refine Met.ofW (cc := b_Co_setWord) (maxL := 4) (ret := none) (by decide) rfl ?_
  intro p e s m args below meth c s₁ B hml hv
  obtain ⟨rfl, hsz, hP, hK⟩ := hv
  have hx := B.exec
  have hb := B.bytes
  have hr := B.returns
  have hA : ∀ w ∈ AW, w.before _ s = true := fun w h => atoms_spec (ws := (.code y_Co_setWord b_Co_setWord 4 none :: AW)) B.pre w (List.mem_cons_of_mem _ h)
  have hown : s.vm.findClass R_Co = some m.cls := findClass_of_methodNamed B.named
  have hlocks := B.notSynchronized
  subst hsz
  have hD : va_D (Am L s.heap.size) (va_pl L f) := pl_D hN (fun _ h => Or.inl h)
  have hA0 : ∀ q, s.heap.size ≤ q → Am L s.heap.size q := fun q h => Or.inr h
  generalize Am L s.heap.size = A at hD hA0 ⊢
  have hS : va_S A s.heap s.heap [] := va_S.rf
  have hkp : Kp (fun a => a = aw) L f (L, f) := Kp.rf
  have hl := lv_entry ([.ref a, .int (nI i), .long v]) (n := 4) (Nat.le_of_ble_eq_true rfl)
  rw [lg_entry_eq]
  generalize (lg_sl ([.ref a, .int (nI i), .long v]) ++ List.replicate (4 - (lg_sl ([.ref a, .int (nI i), .long v])).length) Slot.unset).toArray = ls at hl ⊢
  have hl : lv_has ls 4 [(0, .ref a), (1, .int (nI i)), (2, .long v)] := hl
  refine lv_iload_n hx hb d_Co_setWord_0 rfl (lv_at hl 1 rfl) ?_
  refine lv_aload_n hx hb d_Co_setWord_1 rfl (lv_at hl 0 rfl) ?_
  refine va_get (D := G.1) (ci := 0) (v := .ref aw) (C := R_Co) (T := T_Co) (N := 5) hx hb hA in_Co hown hK.1 (pl_o hP hc) 0 rfl rfl 4 (by decide) (hA _ kw_3) (fun _ h9 => h9) rfl d_Co_setWord_2 ?_
  refine va_alen (v := nI 96) hx hb hK.1 (pl_o hP hw0) 0 0 rfl rfl rfl d_Co_setWord_5 ?_
  refine vp_callSi (va_Run.run (va_runSN (As := [.int (nI i), .int (nI 96)]) (rest := []) ⟨hx, hb, hml, hown, hA⟩ (c_isBelow l G L f (nI i) (nI 96)) ⟨va_cnB 2 hA (gAW kw_4) rfl rfl rfl (hK.2.1 _ kz_0) (hA _ kw_5) (by decide +kernel) ⟨Nat.le_of_ble_eq_true rfl, Nat.le_of_ble_eq_true rfl⟩, (hA _ kw_6), trivial⟩ (pw_preS hP hK) rfl rfl hl.1 rfl (lv_room (Nat.le_of_ble_eq_true rfl)) d_Co_setWord_6 ⟨Nat.zero_le _, Nat.zero_le _⟩)) (fun r_1 e_2 => ?_)
  subst e_2
  refine lv_if_eq (tgt := 19) hx hb d_Co_setWord_9 (by decide) (fun c9 => absurd c9 (by rw [blw_nI (by decide) (by omega), decide_eq_true hi]; decide)) (fun _ => ?_)
  refine lv_aload_n hx hb d_Co_setWord_12 rfl (lv_at hl 0 rfl) ?_
  refine va_get (D := G.1) (ci := 0) (v := .ref aw) (C := R_Co) (T := T_Co) (N := 5) hx hb hA in_Co hown hK.1 (pl_o hP hc) 0 rfl rfl 4 (by decide) (hA _ kw_3) (fun _ h9 => h9) rfl d_Co_setWord_13 ?_
  refine lv_iload_n hx hb d_Co_setWord_16 rfl (lv_at hl 1 rfl) ?_
  refine lv_lload_n hx hb d_Co_setWord_17 rfl (lv_at hl 2 rfl) ?_
  refine xw_last hx hb hK.1 hP hD hS 0 hw0 rfl (i := i) (x := v) hi (by decide) d_Co_setWord_18 (fun H locs hP hD hS => ?_)
  have n_3 : a ≠ aw := Lk.neOA hc hw0
  obtain ⟨f_1, ef_1⟩ : ∃ z : Nat → va_E, z = va_up f aw (.inl (G.2 0, 96, .inr (.inl (vp_updL ww i v)))) := ⟨_, rfl⟩
  rw [← ef_1] at hP hD
  have hc : Lk L f_1 a (.inr (0, [.int k0, .int k1, .int k2, .int k3, .ref aw])) := by rw [ef_1]; exact Lk.up hc n_3
  have hw0 : Lk L f_1 aw (.inl (G.2 0, 96, .inr (.inl (vp_updL ww i v)))) := by rw [ef_1]; exact Lk.set hw0
  have hkp : Kp (fun a => a = aw) L f (L, f_1) := by rw [ef_1]; exact hkp.up rfl
  exact W.vret hx hb hr (fun t9 h9t h9W => ⟨⟨(L, f_1), rfl, ⟨rfl, ef_1⟩, by rw [h9t]; exact hP, hD⟩, hS.F h9t⟩) hS.2.2 d_Co_setWord_19

set_option maxHeartbeats 4000000 in
set_option maxRecDepth 100000 in
/-- RightDesk() -/
theorem c_De_init (l : Launch) (G : GG) (L : List Nat) (f : Nat → va_E) (sz : Nat) (hN : L.Nodup) {q : Nat} (hq0 : Lk L f q (.inr (4, [.null, .null]))) : Met l y_De_init (.code y_De_init b_De_init 1 none :: AW) (RW 2 5 149) (va_Pc [.ref q] (PZ G L f sz)) (va_Qv (fun u => Kp (fun a => a = q) L f u ∧ ∃ cb mA gA rb rA, Lk u.1 u.2 q (.inr (4, [.ref cb, .ref rb])) ∧ Lk u.1 u.2 cb (.inr (1, [.ref mA, .ref gA, .int (nI 0)])) ∧ Lk u.1 u.2 mA (.inl (G.2 2, 60, .inr (.inr (.inr (.inr (fun _ => none)))))) ∧ Lk u.1 u.2 gA (.inl (G.2 1, 64, .inl (fun _ => 0))) ∧ Lk u.1 u.2 rb (.inr (3, [.ref rA, .int (nI 0)])) ∧ Lk u.1 u.2 rA (.inl (G.2 3, 20, .inr (.inr (.inr (.inr (fun _ => none))))))) (BZ G (Am L sz)) (Am L sz)) 5 149 (Am L sz) := by
  refine Met.ofW (cc := b_De_init) (maxL := 1) (ret := none) (by decide) rfl ?_
  intro p e s m args below meth c s₁ B hml hv
  obtain ⟨rfl, hsz, hP, hK⟩ := hv
  have hx := B.exec
  have hb := B.bytes
  have hr := B.returns
  have hA : ∀ w ∈ AW, w.before _ s = true := fun w h => atoms_spec (ws := (.code y_De_init b_De_init 1 none :: AW)) B.pre w (List.mem_cons_of_mem _ h)
  have hown : s.vm.findClass R_De = some m.cls := findClass_of_methodNamed B.named
  have hlocks := B.notSynchronized
  have hin : meth.name = "<init>" := (name_of_methodNamed B.named B.method).1
  subst hsz
  have hD : va_D (Am L s.heap.size) (va_pl L f) := pl_D hN (fun _ h => Or.inl h)
  have hA0 : ∀ q, s.heap.size ≤ q → Am L s.heap.size q := fun q h => Or.inr h
  generalize Am L s.heap.size = A at hD hA0 ⊢
  have hS : va_S A s.heap s.heap [] := va_S.rf
  have hkp : Kp (fun a => a = q) L f (L, f) := Kp.rf
  have hl := lv_entry ([.ref q]) (n := 1) (Nat.le_of_ble_eq_true rfl)
  rw [lg_entry_eq]
  generalize (lg_sl ([.ref q]) ++ List.replicate (1 - (lg_sl ([.ref q])).length) Slot.unset).toArray = ls at hl ⊢
  have hl : lv_has ls 1 [(0, .ref q)] := hl
  refine lv_aload_n hx hb d_De_init_0 rfl (lv_at hl 0 rfl) ?_
  refine W.objInit hx hb hown (hA _ kw_123) (hA _ kw_109) (hA _ kw_110) rfl (by rw [hml]; exact hl.1) rfl d_De_init_1 (Nat.le_of_ble_eq_true rfl) (Nat.le_of_ble_eq_true rfl) ?_
  refine W.eq (g2 := F0 m 4 ls []) rfl ?_
  refine lv_aload_n hx hb d_De_init_4 rfl (lv_at hl 0 rfl) ?_
  refine xw_new (D := G.1) (ci := 1) (fs := [.null, .null, .int 0]) (C := R_Cb) (T := T_Cb) (N := 3) hx hb hA in_Cb ty_Cb tyok_Cb hown (hA _ kw_124) (hA _ kw_125) (hA _ kw_19) hK.1 hP hD hS hA0 rfl (fun j hj => by rcases (show j = 0 ∨ j = 1 ∨ j = 2 by omega) with rfl | rfl | rfl <;> rfl) (Nat.le_of_ble_eq_true rfl) (Nat.le_of_ble_eq_true rfl) d_De_init_5 (fun q_1 H hq_2 hP hD hS => ?_)
  refine W.widen (k := 1) (n := 3) (by omega) (by omega) ?_
  obtain ⟨f_1, ef_1⟩ : ∃ z : Nat → va_E, z = va_up f q_1 (.inr (1, [.null, .null, .int 0])) := ⟨_, rfl⟩
  obtain ⟨L_1, eL_1⟩ : ∃ z : List Nat, z = L ++ [q_1] := ⟨_, rfl⟩
  rw [← ef_1, ← eL_1] at hP hD
  have hq0 : Lk L_1 f_1 q (.inr (4, [.null, .null])) := by rw [ef_1, eL_1]; exact Lk.push hq0 hq_2
  have t_1 : Lk L_1 f_1 q_1 (.inr (1, [.null, .null, .int 0])) := by rw [ef_1, eL_1]; exact Lk.new
  have hkp : Kp (fun a => a = q) L f (L_1, f_1) := by rw [ef_1, eL_1]; exact hkp.push hq_2
  have hqn1 : q_1 ∉ L := hq_2
  refine lv_dup hx hb d_De_init_8 rfl ?_
  have hFc := am_free hD hS hA0
  refine va_callv (va_runIN (As := []) (rest := [.ref q_1, .ref q]) ⟨hx, hb, hml, hown, hA⟩ (c_Cb_init l G L_1 f_1 H.size (pl_nd hD) t_1) ⟨va_cnB 0 hA (gAW kw_126) rfl rfl rfl (hK.2.1 _ kz_27) (hA _ kw_19) (by decide +kernel) ⟨Nat.le_of_ble_eq_true rfl, Nat.le_of_ble_eq_true rfl⟩, rfl, (hA _ kw_127)⟩ (pz_preS hP hK) rfl rfl hl.1 rfl (lv_room (Nat.le_of_ble_eq_true rfl)) d_De_init_9 ⟨Nat.le_of_ble_eq_true rfl, Nat.le_of_ble_eq_true rfl⟩) hS (fun q _ h => hFc q h) hFc (fun u t H1 locs ht hvm hw hWB hz1 hk1 hS => ?_)
  obtain ⟨L_2, f_2⟩ := u
  obtain ⟨hP, hD1⟩ := hWB
  rw [ht] at hP
  have hD := va_Dw hD1 hFc
  clear hD1 hk1 hz1 hFc ht hvm
  generalize H1 = H at hP hS ⊢
  dsimp only at hP hD
  obtain ⟨hk1, mA, gA, a1, a2, a3⟩ := hw
  refine W.widen (k := 3) (n := 127) (by omega) (by omega) ?_
  have n_4 : ¬ q = q_1 := Lk.neOO hq0 t_1 (by decide)
  have hq0 : Lk L_2 f_2 q (.inr (4, [.null, .null])) := hk1.k hq0 n_4
  try dsimp only at a1 a2 a3
  have hkp : Kp (fun a => a = q) L f (L_2, f_2) := hkp.call hk1 (fun a ha e => absurd (e ▸ ha) hqn1)
  refine xw_putF (D := G.1) (ci := 4) (v := .ref q_1) (ty := .object "RightDesk$ConditionBook") (C := R_De) (T := T_De) (N := 2) (fs' := [.ref q_1, .null]) hx hb hA in_De ty_De tyok_De nm_De hown hK.1 hP hD hS hq0 rfl 0 (by decide) (hA _ kw_80) (fun _ h9 => h9) rfl hin rfl (by decide +kernel) rfl rfl (Nat.le_of_ble_eq_true rfl) d_De_init_12 rfl (fun H locs hP hD hS => ?_)
  have n_5 : q_1 ≠ q := Lk.neOO a1 hq0 (by decide)
  have n_6 : mA ≠ q := Ne.symm (Lk.neOA hq0 a2)
  have n_7 : gA ≠ q := Ne.symm (Lk.neOA hq0 a3)
  obtain ⟨f_3, ef_3⟩ : ∃ z : Nat → va_E, z = va_up f_2 q (.inr (4, [.ref q_1, .null])) := ⟨_, rfl⟩
  rw [← ef_3] at hP hD
  have a1 : Lk L_2 f_3 q_1 (.inr (1, [.ref mA, .ref gA, .int (nI 0)])) := by rw [ef_3]; exact Lk.up a1 n_5
  have a2 : Lk L_2 f_3 mA (.inl (G.2 2, 60, .inr (.inr (.inr (.inr (fun _ => none)))))) := by rw [ef_3]; exact Lk.up a2 n_6
  have a3 : Lk L_2 f_3 gA (.inl (G.2 1, 64, .inl (fun _ => 0))) := by rw [ef_3]; exact Lk.up a3 n_7
  have hq0 : Lk L_2 f_3 q (.inr (4, [.ref q_1, .null])) := by rw [ef_3]; exact Lk.set hq0
  have hkp : Kp (fun a => a = q) L f (L_2, f_3) := by rw [ef_3]; exact hkp.up rfl
  refine lv_aload_n hx hb d_De_init_15 rfl (lv_at hl 0 rfl) ?_
  have hkq := hkp
  refine xw_new (D := G.1) (ci := 3) (fs := [.null, .int 0]) (C := R_Rb) (T := T_Rb) (N := 2) hx hb hA in_Rb ty_Rb tyok_Rb hown (hA _ kw_128) (hA _ kw_129) (hA _ kw_48) hK.1 hP hD hS hA0 rfl (fun j hj => by rcases (show j = 0 ∨ j = 1 by omega) with rfl | rfl <;> rfl) (Nat.le_of_ble_eq_true rfl) (Nat.le_of_ble_eq_true rfl) d_De_init_16 (fun q_8 H hq_9 hP hD hS => ?_)
  refine W.widen (k := 4) (n := 129) (by omega) (by omega) ?_
  obtain ⟨f_4, ef_4⟩ : ∃ z : Nat → va_E, z = va_up f_3 q_8 (.inr (3, [.null, .int 0])) := ⟨_, rfl⟩
  obtain ⟨L_4, eL_4⟩ : ∃ z : List Nat, z = L_2 ++ [q_8] := ⟨_, rfl⟩
  rw [← ef_4, ← eL_4] at hP hD
  have hq0 : Lk L_4 f_4 q (.inr (4, [.ref q_1, .null])) := by rw [ef_4, eL_4]; exact Lk.push hq0 hq_9
  have a1 : Lk L_4 f_4 q_1 (.inr (1, [.ref mA, .ref gA, .int (nI 0)])) := by rw [ef_4, eL_4]; exact Lk.push a1 hq_9
  have a2 : Lk L_4 f_4 mA (.inl (G.2 2, 60, .inr (.inr (.inr (.inr (fun _ => none)))))) := by rw [ef_4, eL_4]; exact Lk.push a2 hq_9
  have a3 : Lk L_4 f_4 gA (.inl (G.2 1, 64, .inl (fun _ => 0))) := by rw [ef_4, eL_4]; exact Lk.push a3 hq_9
  have t_2 : Lk L_4 f_4 q_8 (.inr (3, [.null, .int 0])) := by rw [ef_4, eL_4]; exact Lk.new
  have hkp : Kp (fun a => a = q) L f (L_4, f_4) := by rw [ef_4, eL_4]; exact hkp.push hq_9
  refine lv_dup hx hb d_De_init_19 rfl ?_
  have hqn2 : ¬ q = q_8 := Lk.neOO hq0 t_2 (by decide)
  have hqn3 : q_8 ∉ L := hkq.notin hq_9 (fun e => hqn2 e.symm)
  have n_10 : ¬ q = q_8 := Lk.neOO hq0 t_2 (by decide)
  have n_11 : ¬ q_1 = q_8 := Lk.neOO a1 t_2 (by decide)
  have n_12 : ¬ mA = q_8 := Ne.symm (Lk.neOA t_2 a2)
  have n_13 : ¬ gA = q_8 := Ne.symm (Lk.neOA t_2 a3)
  have hFc := am_free hD hS hA0
  refine va_callv (va_runIN (As := []) (rest := [.ref q_8, .ref q]) ⟨hx, hb, hml, hown, hA⟩ (c_Rb_init l G L_4 f_4 H.size (pl_nd hD) t_2) ⟨va_cnB 0 hA (gAW kw_130) rfl rfl rfl (hK.2.1 _ kz_28) (hA _ kw_48) (by decide +kernel) ⟨Nat.le_of_ble_eq_true rfl, Nat.le_of_ble_eq_true rfl⟩, rfl, (hA _ kw_131)⟩ (pz_preS hP hK) rfl rfl hl.1 rfl (lv_room (Nat.le_of_ble_eq_true rfl)) d_De_init_20 ⟨Nat.le_of_ble_eq_true rfl, Nat.le_of_ble_eq_true rfl⟩) hS (fun q _ h => hFc q h) hFc (fun u t H1 locs ht hvm hw hWB hz1 hk1 hS => ?_)
  obtain ⟨L_5, f_5⟩ := u
  obtain ⟨hP, hD1⟩ := hWB
  rw [ht] at hP
  have hD := va_Dw hD1 hFc
  clear hD1 hk1 hz1 hFc ht hvm
  generalize H1 = H at hP hS ⊢
  dsimp only at hP hD
  obtain ⟨hk2, rA, b1, b2⟩ := hw
  refine W.widen (k := 5) (n := 149) (by omega) (by omega) ?_
  have hq0 : Lk L_5 f_5 q (.inr (4, [.ref q_1, .null])) := hk2.k hq0 n_10
  have a1 : Lk L_5 f_5 q_1 (.inr (1, [.ref mA, .ref gA, .int (nI 0)])) := hk2.k a1 n_11
  have a2 : Lk L_5 f_5 mA (.inl (G.2 2, 60, .inr (.inr (.inr (.inr (fun _ => none)))))) := hk2.k a2 n_12
  have a3 : Lk L_5 f_5 gA (.inl (G.2 1, 64, .inl (fun _ => 0))) := hk2.k a3 n_13
  try dsimp only at b1 b2
  have hkp : Kp (fun a => a = q) L f (L_5, f_5) := hkp.call hk2 (fun a ha e => absurd (e ▸ ha) hqn3)
  refine xw_putF (D := G.1) (ci := 4) (v := .ref q_8) (ty := .object "RightDesk$RuleBook") (C := R_De) (T := T_De) (N := 2) (fs' := [.ref q_1, .ref q_8]) hx hb hA in_De ty_De tyok_De nm_De hown hK.1 hP hD hS hq0 rfl 1 (by decide) (hA _ kw_81) (fun _ h9 => h9) rfl hin rfl (by decide +kernel) rfl rfl (Nat.le_of_ble_eq_true rfl) d_De_init_23 rfl (fun H locs hP hD hS => ?_)
  have n_15 : q_1 ≠ q := Lk.neOO a1 hq0 (by decide)
  have n_16 : q_8 ≠ q := Lk.neOO b1 hq0 (by decide)
  have n_17 : mA ≠ q := Ne.symm (Lk.neOA hq0 a2)
  have n_18 : gA ≠ q := Ne.symm (Lk.neOA hq0 a3)
  have n_19 : rA ≠ q := Ne.symm (Lk.neOA hq0 b2)
  obtain ⟨f_6, ef_6⟩ : ∃ z : Nat → va_E, z = va_up f_5 q (.inr (4, [.ref q_1, .ref q_8])) := ⟨_, rfl⟩
  rw [← ef_6] at hP hD
  have a1 : Lk L_5 f_6 q_1 (.inr (1, [.ref mA, .ref gA, .int (nI 0)])) := by rw [ef_6]; exact Lk.up a1 n_15
  have b1 : Lk L_5 f_6 q_8 (.inr (3, [.ref rA, .int (nI 0)])) := by rw [ef_6]; exact Lk.up b1 n_16
  have a2 : Lk L_5 f_6 mA (.inl (G.2 2, 60, .inr (.inr (.inr (.inr (fun _ => none)))))) := by rw [ef_6]; exact Lk.up a2 n_17
  have a3 : Lk L_5 f_6 gA (.inl (G.2 1, 64, .inl (fun _ => 0))) := by rw [ef_6]; exact Lk.up a3 n_18
  have b2 : Lk L_5 f_6 rA (.inl (G.2 3, 20, .inr (.inr (.inr (.inr (fun _ => none)))))) := by rw [ef_6]; exact Lk.up b2 n_19
  have hq0 : Lk L_5 f_6 q (.inr (4, [.ref q_1, .ref q_8])) := by rw [ef_6]; exact Lk.set hq0
  have hkp : Kp (fun a => a = q) L f (L_5, f_6) := by rw [ef_6]; exact hkp.up rfl
  exact W.vret hx hb hr (fun t9 h9t h9W => ⟨⟨(L_5, f_6), rfl, ⟨hkp, q_1, mA, gA, q_8, rA, hq0, a1, a2, a3, b1, b2⟩, by rw [h9t]; exact hP, hD⟩, hS.F h9t⟩) hS.2.2 d_De_init_26
end
section
set_option maxHeartbeats 4000000 in
set_option maxRecDepth 100000 in
/-- ConditionBook.add -/
theorem c_Cb_add (l : Launch) (G : GG) (L : List Nat) (f : Nat → va_E) (sz : Nat) (hN : L.Nodup) {cb mA gA n : Nat} {ad wa kd : Nat → Nat} {ka kb kc : Nat → Int32} {wd : Nat → Nat → Int64} {mm : Nat → Bool} (hB : CoB G L f cb mA gA n ad wa kd ka kb kc wd mm) {k a b c_ : Nat} {xa xb xc : Int32} (ho : okC n k xa xb xc a b c_) : Met l y_Cb_add (.code y_Cb_add b_Cb_add 7 (some .int) :: AW) (RW 5 2 101) (va_Pc [.ref cb, .int (nI k), .int xa, .int xb, .int xc] (PZ G L f sz)) (va_Qi (fun r u => (n = 60 ∧ r = -3 ∧ u = (L, f)) ∨ (n < 60 ∧ r = nI n ∧ ∃ q zw g, q ∉ L ∧ zw ∉ L ∧ q ≠ zw ∧ Kp (fun a => a = cb ∨ a = mA) L f u ∧ (∀ j, j < 96 → g j = wrd mm wd k a b c_ j) ∧ CoB G u.1 u.2 cb mA gA (n + 1) (va_up ad n q) (va_up wa n zw) (va_up kd n k) (va_up ka n xa) (va_up kb n xb) (va_up kc n xc) (va_up wd n g) mm)) (BZ G (Am L sz)) (Am L sz)) 2 101 (Am L sz) := by
  refine Met.ofW (cc := b_Cb_add) (maxL := 7) (ret := (some .int)) (by decide) rfl ?_
  intro p e s m args below meth c s₁ B hml hv
  obtain ⟨rfl, hsz, hP, hK⟩ := hv
  have hx := B.exec
  have hb := B.bytes
  have hr := B.returns
  have hA : ∀ w ∈ AW, w.before _ s = true := fun w h => atoms_spec (ws := (.code y_Cb_add b_Cb_add 7 (some .int) :: AW)) B.pre w (List.mem_cons_of_mem _ h)
  have hown : s.vm.findClass R_Cb = some m.cls := findClass_of_methodNamed B.named
  have hlocks := B.notSynchronized
  subst hsz
  have hD : va_D (Am L s.heap.size) (va_pl L f) := pl_D hN (fun _ h => Or.inl h)
  have hA0 : ∀ q, s.heap.size ≤ q → Am L s.heap.size q := fun q h => Or.inr h
  generalize Am L s.heap.size = A at hD hA0 ⊢
  have hS : va_S A s.heap s.heap [] := va_S.rf
  have hkp : Kp (fun _ => False) L f (L, f) := Kp.rf
  have hl := lv_entry ([.ref cb, .int (nI k), .int xa, .int xb, .int xc]) (n := 7) (Nat.le_of_ble_eq_true rfl)
  rw [lg_entry_eq]
  generalize (lg_sl ([.ref cb, .int (nI k), .int xa, .int xb, .int xc]) ++ List.replicate (7 - (lg_sl ([.ref cb, .int (nI k), .int xa, .int xb, .int xc])).length) Slot.unset).toArray = ls at hl ⊢
  have hl : lv_has ls 7 [(0, .ref cb), (1, .int (nI k)), (2, .int xa), (3, .int xb), (4, .int xc)] := hl
  have hcb : Lk L f cb (.inr (1, [.ref mA, .ref gA, .int (nI n)])) := hB.2.1
  have hmA : Lk L f mA (.inl (G.2 2, 60, .inr (.inr (.inr (.inr (upto n ad)))))) := hB.2.2.1
  have hn60 := hB.1
  refine lv_aload_n hx hb d_Cb_add_0 rfl (lv_at hl 0 rfl) ?_
  refine va_get (D := G.1) (ci := 1) (v := .int (nI n)) (C := R_Cb) (T := T_Cb) (N := 3) hx hb hA in_Cb hown hK.1 (pl_o hP hcb) 0 rfl rfl 2 (by decide) (hA _ kw_24) (fun _ h9 => h9) rfl d_Cb_add_1 ?_
  refine lv_aload_n hx hb d_Cb_add_4 rfl (lv_at hl 0 rfl) ?_
  refine va_get (D := G.1) (ci := 1) (v := .ref mA) (C := R_Cb) (T := T_Cb) (N := 3) hx hb hA in_Cb hown hK.1 (pl_o hP hcb) 0 rfl rfl 0 (by decide) (hA _ kw_7) (fun _ h9 => h9) rfl d_Cb_add_5 ?_
  refine va_alen (v := nI 60) hx hb hK.1 (pl_o hP hmA) 0 2 rfl rfl rfl d_Cb_add_8 ?_
  refine vp_callSi (va_Run.run (va_runSN (As := [.int (nI n), .int (nI 60)]) (rest := []) ⟨hx, hb, hml, hown, hA⟩ (c_isBelow l G L f (nI n) (nI 60)) ⟨va_cnB 2 hA (gAW kw_4) rfl rfl rfl (hK.2.1 _ kz_1) (hA _ kw_5) (by decide +kernel) ⟨Nat.le_of_ble_eq_true rfl, Nat.le_of_ble_eq_true rfl⟩, (hA _ kw_6), trivial⟩ (pw_preS hP hK) rfl rfl hl.1 rfl (lv_room (Nat.le_of_ble_eq_true rfl)) d_Cb_add_9 ⟨Nat.zero_le _, Nat.zero_le _⟩)) (fun r_1 e_2 => ?_)
  subst e_2
  by_cases hlt : n < 60
  · refine lv_if_ne (tgt := 18) hx hb d_Cb_add_12 (by decide) (fun _ => ?_) (fun c9 => absurd c9 (by rw [blw_nI (by decide) (by omega), decide_eq_true hlt]; decide))
    refine xw_new (D := G.1) (ci := 0) (fs := [.int 0, .int 0, .int 0, .int 0, .null]) (C := R_Co) (T := T_Co) (N := 5) hx hb hA in_Co ty_Co tyok_Co hown (hA _ kw_132) (hA _ kw_133) (hA _ kw_11) hK.1 hP hD hS hA0 rfl (fun j hj => by rcases (show j = 0 ∨ j = 1 ∨ j = 2 ∨ j = 3 ∨ j = 4 by omega) with rfl | rfl | rfl | rfl | rfl <;> rfl) (Nat.le_of_ble_eq_true rfl) (Nat.le_of_ble_eq_true rfl) d_Cb_add_18 (fun q_3 H hq_4 hP hD hS => ?_)
    refine W.widen (k := 1) (n := 5) (by omega) (by omega) ?_
    obtain ⟨f_1, ef_1⟩ : ∃ z : Nat → va_E, z = va_up f q_3 (.inr (0, [.int 0, .int 0, .int 0, .int 0, .null])) := ⟨_, rfl⟩
    obtain ⟨L_1, eL_1⟩ : ∃ z : List Nat, z = L ++ [q_3] := ⟨_, rfl⟩
    rw [← ef_1, ← eL_1] at hP hD
    have hcb : Lk L_1 f_1 cb (.inr (1, [.ref mA, .ref gA, .int (nI n)])) := by rw [ef_1, eL_1]; exact Lk.push hcb hq_4
    have hmA : Lk L_1 f_1 mA (.inl (G.2 2, 60, .inr (.inr (.inr (.inr (upto n ad)))))) := by rw [ef_1, eL_1]; exact Lk.push hmA hq_4
    have t_1 : Lk L_1 f_1 q_3 (.inr (0, [.int 0, .int 0, .int 0, .int 0, .null])) := by rw [ef_1, eL_1]; exact Lk.new
    have hkp : Kp (fun _ => False) L f (L_1, f_1) := by rw [ef_1, eL_1]; exact hkp.push hq_4
    have hqL : q_3 ∉ L := hq_4
    have hB1 : CoB G L_1 f_1 cb mA gA n ad wa kd ka kb kc wd mm := by rw [ef_1, eL_1]; exact hB.keep (Kp.push Kp.rf hq_4) (fun _ _ _ _ z => z)
    refine lv_dup hx hb d_Cb_add_21 rfl ?_
    refine lv_iload_n hx hb d_Cb_add_22 rfl (lv_at hl 1 rfl) ?_
    refine lv_iload_n hx hb d_Cb_add_23 rfl (lv_at hl 2 rfl) ?_
    refine lv_iload_n hx hb d_Cb_add_24 rfl (lv_at hl 3 rfl) ?_
    refine lv_iload hx hb d_Cb_add_25 (lv_at hl 4 rfl) ?_
    have n_5 : ¬ cb = q_3 := Lk.neOO hcb t_1 (by decide)
    have n_6 : ¬ mA = q_3 := Ne.symm (Lk.neOA t_1 hmA)
    have hsq : ∀ a e, Lk L_1 f_1 a e → cT e = true → a ∈ L → ¬ a = q_3 := fun a e _ _ h z => hqL (z ▸ h)
    have hFc := am_free hD hS hA0
    have hkz := hkp
    refine va_callv (va_runIN (As := [.int (nI k), .int xa, .int xb, .int xc]) (rest := [.ref q_3]) ⟨hx, hb, hml, hown, hA⟩ (c_Co_init l G L_1 f_1 H.size (pl_nd hD) t_1 (nI k) xa xb xc) ⟨va_cnB 4 hA (gAW kw_134) rfl rfl rfl (hK.2.1 _ kz_29) (hA _ kw_11) (by decide +kernel) ⟨Nat.le_of_ble_eq_true rfl, Nat.le_of_ble_eq_true rfl⟩, rfl, (hA _ kw_135)⟩ (pz_preS hP hK) rfl rfl hl.1 rfl (lv_room (Nat.le_of_ble_eq_true rfl)) d_Cb_add_27 ⟨Nat.le_of_ble_eq_true rfl, Nat.le_of_ble_eq_true rfl⟩) hS (fun q _ h => hFc q h) hFc (fun u9 t9 H1 locs ht9 hvm hw hWB hz1 hk1 hS => ?_)
    obtain ⟨L_2, f_2⟩ := u9
    obtain ⟨hP, hD1⟩ := hWB
    rw [ht9] at hP
    have hD := va_Dw hD1 hFc
    clear hD1 hk1 hz1 hFc ht9 hvm
    generalize H1 = H at hP hS ⊢
    dsimp only at hP hD
    obtain ⟨hk1, zw, hzn, a1, a2⟩ := hw
    refine W.widen (k := 2) (n := 101) (by omega) (by omega) ?_
    have hcb : Lk L_2 f_2 cb (.inr (1, [.ref mA, .ref gA, .int (nI n)])) := hk1.k hcb n_5
    have hmA : Lk L_2 f_2 mA (.inl (G.2 2, 60, .inr (.inr (.inr (.inr (upto n ad)))))) := hk1.k hmA n_6
    try dsimp only at a1 a2
    have hkp : Kp (fun _ => False) L f (L_2, f_2) := hkp.call hk1 (fun a ha e => absurd (e ▸ ha) hqL)
    have hB2 : CoB G L_2 f_2 cb mA gA n ad wa kd ka kb kc wd mm := by
      refine hB.keep hkp (fun _ _ _ _ z => z)
    have hzL : zw ∉ L := hkz.notin hzn (fun z => z)
    refine lv_astore (lv' := [(5, .ref q_3), (0, .ref cb), (1, .int (nI k)), (2, .int xa), (3, .int xb), (4, .int xc)]) hx hb d_Cb_add_30 hl (by decide) rfl (fun ls hl => ?_)
    refine lv_iconst (v := nI 0) hx hb d_Cb_add_32 (by decide) ?_
    refine lv_istore (lv' := [(6, .int (nI 0)), (5, .ref q_3), (0, .ref cb), (1, .int (nI k)), (2, .int xa), (3, .int xb), (4, .int xc)]) hx hb d_Cb_add_33 hl (by decide) rfl (fun ls hl => ?_)
    have loop : ∀ (kk i : Nat) (H : Heap) (locs : List Loc) (g : Nat → Int64) (ls : Array Slot), i + kk = 96 → (∀ j, j < i → g j = wrd mm wd k a b c_ j) → va_P G.1 vwCl (va_pl L_2 (va_up f_2 zw (.inl (G.2 0, 96, .inr (.inl g))))) H → va_D A (va_pl L_2 (va_up f_2 zw (.inl (G.2 0, 96, .inr (.inl g))))) → va_S A s.heap H locs → lv_has ls 7 [(0, .ref cb), (5, .ref q_3), (6, .int (nI i))] → W p l e (headSpec (.code y_Cb_add b_Cb_add 7 (some .int) :: AW) (RW 5 2 101)).room s m ([.ref cb, .int (nI k), .int xa, .int xb, .int xc] : List Value).toArray below meth c H locs 2 101 (MQ below (va_Qi (fun r u => (n = 60 ∧ r = -3 ∧ u = (L, f)) ∨ (n < 60 ∧ r = nI n ∧ ∃ q zw g, q ∉ L ∧ zw ∉ L ∧ q ≠ zw ∧ Kp (fun a => a = cb ∨ a = mA) L f u ∧ (∀ j, j < 96 → g j = wrd mm wd k a b c_ j) ∧ CoB G u.1 u.2 cb mA gA (n + 1) (va_up ad n q) (va_up wa n zw) (va_up kd n k) (va_up ka n xa) (va_up kb n xb) (va_up kc n xc) (va_up wd n g) mm)) (BZ G A) A) ([.ref cb, .int (nI k), .int xa, .int xb, .int xc] : List Value).toArray s 2 101 A) (F0 m 35 ls []) := by
      intro kk
      induction kk with
      | zero =>
        intro i H locs g ls hik hg hP hD hS hl
        have hcb : Lk L_2 (va_up f_2 zw (.inl (G.2 0, 96, .inr (.inl g)))) cb (.inr (1, [.ref mA, .ref gA, .int (nI n)])) := Lk.up hcb (Lk.neOA hcb a2)
        have hmA : Lk L_2 (va_up f_2 zw (.inl (G.2 0, 96, .inr (.inl g)))) mA (.inl (G.2 2, 60, .inr (.inr (.inr (.inr (upto n ad)))))) := Lk.up hmA (Lk.neAA hmA a2 (by decide))
        have a1_ : Lk L_2 (va_up f_2 zw (.inl (G.2 0, 96, .inr (.inl g)))) q_3 (.inr (0, [.int (nI k), .int xa, .int xb, .int xc, .ref zw])) := Lk.up a1 (Lk.neOA a1 a2)
        have a2_ : Lk L_2 (va_up f_2 zw (.inl (G.2 0, 96, .inr (.inl g)))) zw (.inl (G.2 0, 96, .inr (.inl g))) := Lk.set a2
        have hB3 : CoB G L_2 (va_up f_2 zw (.inl (G.2 0, 96, .inr (.inl g)))) cb mA gA n ad wa kd ka kb kc wd mm := hB.keep (Kp.upF hkp hzL) (fun _ _ _ _ z => z)
        have hkp : Kp (fun _ => False) L f (L_2, (va_up f_2 zw (.inl (G.2 0, 96, .inr (.inl g))))) := Kp.upF hkp hzL
        refine lv_iload hx hb d_Cb_add_35 (lv_at hl 2 rfl) ?_
        refine lv_bipush (v := nI 96) hx hb d_Cb_add_37 (by decide) ?_
        refine lv_icmp_ge (tgt := 63) hx hb d_Cb_add_39 (by decide) (fun _ => ?_) (fun c9 => absurd (nI_le (by omega) (by omega)) c9)
        have hkp : Kp (fun a => a = cb ∨ a = mA) L f (L_2, (va_up f_2 zw (.inl (G.2 0, 96, .inr (.inl g))))) := hkp.mono (fun _ z => z.elim)
        refine lv_aload_n hx hb d_Cb_add_63 rfl (lv_at hl 0 rfl) ?_
        refine va_get (D := G.1) (ci := 1) (v := .ref mA) (C := R_Cb) (T := T_Cb) (N := 3) hx hb hA in_Cb hown hK.1 (pl_o hP hcb) 0 rfl rfl 0 (by decide) (hA _ kw_7) (fun _ h9 => h9) rfl d_Cb_add_64 ?_
        refine lv_aload_n hx hb d_Cb_add_67 rfl (lv_at hl 0 rfl) ?_
        refine va_get (D := G.1) (ci := 1) (v := .int (nI n)) (C := R_Cb) (T := T_Cb) (N := 3) hx hb hA in_Cb hown hK.1 (pl_o hP hcb) 0 rfl rfl 2 (by decide) (hA _ kw_24) (fun _ h9 => h9) rfl d_Cb_add_68 ?_
        refine lv_aload hx hb d_Cb_add_71 (lv_at hl 1 rfl) ?_
        refine xw_astq hx hb hK.1 hP hD hS 2 0 hmA rfl a1_ rfl (i := n) (by omega) (by decide) d_Cb_add_73 (fun H locs hP hD hS => ?_)
        have n_8 : cb ≠ mA := Lk.neOA hcb hmA
        have n_9 : q_3 ≠ mA := Lk.neOA a1_ hmA
        have n_10 : zw ≠ mA := Lk.neAA a2_ hmA (by decide)
        obtain ⟨f_4, ef_4⟩ : ∃ z : Nat → va_E, z = va_up (va_up f_2 zw (.inl (G.2 0, 96, .inr (.inl g)))) mA (.inl (G.2 2, 60, .inr (.inr (.inr (.inr (va_up (upto n ad) n (some q_3))))))) := ⟨_, rfl⟩
        rw [← ef_4] at hP hD
        have hcb : Lk L_2 f_4 cb (.inr (1, [.ref mA, .ref gA, .int (nI n)])) := by rw [ef_4]; exact Lk.up hcb n_8
        have a1_ : Lk L_2 f_4 q_3 (.inr (0, [.int (nI k), .int xa, .int xb, .int xc, .ref zw])) := by rw [ef_4]; exact Lk.up a1_ n_9
        have a2_ : Lk L_2 f_4 zw (.inl (G.2 0, 96, .inr (.inl g))) := by rw [ef_4]; exact Lk.up a2_ n_10
        have hmA : Lk L_2 f_4 mA (.inl (G.2 2, 60, .inr (.inr (.inr (.inr (va_up (upto n ad) n (some q_3))))))) := by rw [ef_4]; exact Lk.set hmA
        have hkp : Kp (fun a => a = cb ∨ a = mA) L f (L_2, f_4) := by rw [ef_4]; exact hkp.up (Or.inr rfl)
        refine lv_aload_n hx hb d_Cb_add_74 rfl (lv_at hl 0 rfl) ?_
        refine lv_dup hx hb d_Cb_add_75 rfl ?_
        refine va_get (D := G.1) (ci := 1) (v := .int (nI n)) (C := R_Cb) (T := T_Cb) (N := 3) hx hb hA in_Cb hown hK.1 (pl_o hP hcb) 0 rfl rfl 2 (by decide) (hA _ kw_24) (fun _ h9 => h9) rfl d_Cb_add_76 ?_
        refine lv_iconst (v := nI 1) hx hb d_Cb_add_79 (by decide) ?_
        refine lv_iadd hx hb d_Cb_add_80 ?_
        refine xv_I (y := nI (n + 1)) (nI_1 n) ?_
        refine xw_put (D := G.1) (ci := 1) (v := .int (nI (n + 1))) (ty := .int) (C := R_Cb) (T := T_Cb) (N := 3) (fs' := [.ref mA, .ref gA, .int (nI (n + 1))]) hx hb hA in_Cb ty_Cb tyok_Cb nm_Cb hown hK.1 hP hD hS hcb rfl 2 (by decide) (hA _ kw_24) (fun _ h9 => h9) rfl (by decide +kernel) rfl rfl (Nat.le_of_ble_eq_true rfl) d_Cb_add_81 rfl (fun H locs hP hD hS => ?_)
        have n_11 : q_3 ≠ cb := Lk.neOO a1_ hcb (by decide)
        have n_12 : mA ≠ cb := Ne.symm (Lk.neOA hcb hmA)
        have n_13 : zw ≠ cb := Ne.symm (Lk.neOA hcb a2_)
        obtain ⟨f_5, ef_5⟩ : ∃ z : Nat → va_E, z = va_up f_4 cb (.inr (1, [.ref mA, .ref gA, .int (nI (n + 1))])) := ⟨_, rfl⟩
        rw [← ef_5] at hP hD
        have a1_ : Lk L_2 f_5 q_3 (.inr (0, [.int (nI k), .int xa, .int xb, .int xc, .ref zw])) := by rw [ef_5]; exact Lk.up a1_ n_11
        have hmA : Lk L_2 f_5 mA (.inl (G.2 2, 60, .inr (.inr (.inr (.inr (va_up (upto n ad) n (some q_3))))))) := by rw [ef_5]; exact Lk.up hmA n_12
        have a2_ : Lk L_2 f_5 zw (.inl (G.2 0, 96, .inr (.inl g))) := by rw [ef_5]; exact Lk.up a2_ n_13
        have hcb : Lk L_2 f_5 cb (.inr (1, [.ref mA, .ref gA, .int (nI (n + 1))])) := by rw [ef_5]; exact Lk.set hcb
        have hkp : Kp (fun a => a = cb ∨ a = mA) L f (L_2, f_5) := by rw [ef_5]; exact hkp.up (Or.inl rfl)
        refine lv_aload_n hx hb d_Cb_add_84 rfl (lv_at hl 0 rfl) ?_
        refine va_get (D := G.1) (ci := 1) (v := .int (nI (n + 1))) (C := R_Cb) (T := T_Cb) (N := 3) hx hb hA in_Cb hown hK.1 (pl_o hP hcb) 0 rfl rfl 2 (by decide) (hA _ kw_24) (fun _ h9 => h9) rfl d_Cb_add_85 ?_
        refine lv_iconst (v := nI 1) hx hb d_Cb_add_88 (by decide) ?_
        refine lv_isub hx hb d_Cb_add_89 ?_
        refine xv_I (y := nI n) (nI_pred n) ?_
        have hg96 : ∀ j, j < 96 → g j = wrd mm wd k a b c_ j := fun j hj => hg j (by omega)
        exact W.iret (v := nI n) hx hb hr (fun t9 h9t h9W => ⟨⟨_, (L_2, f_5), rfl, Or.inr ⟨hlt, rfl, q_3, zw, g, hqL, hzL, Lk.neOA a1_ a2_, hkp, hg96, CoB_snoc hB hlt hkp hcb hmA a1_ a2_⟩, by rw [h9t]; exact hP, hD⟩, hS.F h9t⟩) hS.2.2 d_Cb_add_90
      | succ kk ih =>
        intro i H locs g ls hik hg hP hD hS hl
        have hcb : Lk L_2 (va_up f_2 zw (.inl (G.2 0, 96, .inr (.inl g)))) cb (.inr (1, [.ref mA, .ref gA, .int (nI n)])) := Lk.up hcb (Lk.neOA hcb a2)
        have hmA : Lk L_2 (va_up f_2 zw (.inl (G.2 0, 96, .inr (.inl g)))) mA (.inl (G.2 2, 60, .inr (.inr (.inr (.inr (upto n ad)))))) := Lk.up hmA (Lk.neAA hmA a2 (by decide))
        have a1_ : Lk L_2 (va_up f_2 zw (.inl (G.2 0, 96, .inr (.inl g)))) q_3 (.inr (0, [.int (nI k), .int xa, .int xb, .int xc, .ref zw])) := Lk.up a1 (Lk.neOA a1 a2)
        have a2_ : Lk L_2 (va_up f_2 zw (.inl (G.2 0, 96, .inr (.inl g)))) zw (.inl (G.2 0, 96, .inr (.inl g))) := Lk.set a2
        have hB3 : CoB G L_2 (va_up f_2 zw (.inl (G.2 0, 96, .inr (.inl g)))) cb mA gA n ad wa kd ka kb kc wd mm := hB.keep (Kp.upF hkp hzL) (fun _ _ _ _ z => z)
        have hkp : Kp (fun _ => False) L f (L_2, (va_up f_2 zw (.inl (G.2 0, 96, .inr (.inl g))))) := Kp.upF hkp hzL
        refine lv_iload hx hb d_Cb_add_35 (lv_at hl 2 rfl) ?_
        refine lv_bipush (v := nI 96) hx hb d_Cb_add_37 (by decide) ?_
        refine lv_icmp_ge (tgt := 63) hx hb d_Cb_add_39 (by decide) (fun c9 => absurd c9 (nI_ge (by omega) (by omega))) (fun _ => ?_)
        refine lv_aload hx hb d_Cb_add_42 (lv_at hl 1 rfl) ?_
        refine lv_iload hx hb d_Cb_add_44 (lv_at hl 2 rfl) ?_
        refine lv_aload_n hx hb d_Cb_add_46 rfl (lv_at hl 0 rfl) ?_
        refine lv_aload hx hb d_Cb_add_47 (lv_at hl 1 rfl) ?_
        refine lv_iload hx hb d_Cb_add_49 (lv_at hl 2 rfl) ?_
        refine vp_callSl (va_Run.run (va_runV (As := [.ref q_3, .int (nI i)]) (rest := [.int (nI i), .ref q_3]) ⟨hx, hb, hml, hown, hA⟩ (c_Cb_work l G L_2 (va_up f_2 zw (.inl (G.2 0, 96, .inr (.inl g)))) hB3 a1_ ho i (by omega)) ⟨callB_of 2 hA (gAW kw_136) rfl rfl rfl (hA _ kw_19) (hA _ kw_137) (by decide +kernel) ⟨Nat.le_of_ble_eq_true rfl, Nat.le_of_ble_eq_true rfl⟩, (hA _ kw_138), (hA _ kw_139)⟩ (pw_preV (ci := 1) hP hK hcb rfl) rfl rfl hl.1 rfl (lv_room (Nat.le_of_ble_eq_true rfl)) d_Cb_add_51 ⟨Nat.le_of_ble_eq_true rfl, Nat.le_of_ble_eq_true rfl⟩)) (fun r_14 e_15 => ?_)
        subst e_15
        have hFc := am_free hD hS hA0
        refine va_callv (va_runVN (As := [.int (nI i), .long (wrd mm wd k a b c_ i)]) (rest := []) ⟨hx, hb, hml, hown, hA⟩ (c_Co_setWord l G L_2 (va_up f_2 zw (.inl (G.2 0, 96, .inr (.inl g)))) H.size (pl_nd hD) a1_ a2_ i (by omega) (wrd mm wd k a b c_ i)) ⟨va_cnB 2 hA (gAW kw_140) rfl rfl rfl (hK.2.1 _ kz_30) (hA _ kw_11) (by decide +kernel) ⟨Nat.le_of_ble_eq_true rfl, Nat.le_of_ble_eq_true rfl⟩, (hA _ kw_141), (hA _ kw_142)⟩ (pz_preV (ci := 0) hP hK a1_ rfl) rfl rfl hl.1 rfl (lv_room (Nat.le_of_ble_eq_true rfl)) d_Cb_add_54 ⟨Nat.le_of_ble_eq_true rfl, Nat.le_of_ble_eq_true rfl⟩) hS (fun q _ h => hFc q h) hFc (fun u9 t9 H1 locs ht9 hvm hw hWB hz1 hk1 hS => ?_)
        obtain ⟨L_6, f_6⟩ := u9
        obtain ⟨hP, hD1⟩ := hWB
        rw [ht9] at hP
        have hD := va_Dw hD1 hFc
        clear hD1 hk1 hz1 hFc ht9 hvm
        generalize H1 = H at hP hS ⊢
        dsimp only at hP hD
        obtain ⟨hu1, hu2⟩ := hw
        try dsimp only at hu1 hu2
        replace hu1 := hu1.symm
        subst hu1
        rw [bx_uu] at hu2
        subst hu2
        refine lv_iinc (v := nI (i + 1)) (lv' := [(6, .int (nI (i + 1))), (0, .ref cb), (5, .ref q_3)]) hx hb d_Cb_add_57 hl (k := 2) rfl (nI_1 i) (by decide) rfl (fun ls hl => ?_)
        refine lv_goto (tgt := 35) hx hb d_Cb_add_60 (by decide) ?_
        refine ih (i + 1) H locs _ ls (by omega) (fun j hj => ?_) hP hD hS (lv_sub hl [1, 2, 0] rfl)
        by_cases hji : j = i
        · subst hji; exact if_pos rfl
        · exact (if_neg hji).trans (hg j (by omega))
    have e0 : f_2 = va_up f_2 zw (.inl (G.2 0, 96, .inr (.inl (fun _ => 0)))) := va_up_id a2.2
    rw [e0] at hP hD
    exact loop 96 0 H locs (fun _ => 0) ls (by omega) (fun j hj => by omega) hP hD hS (lv_sub hl [2, 1, 0] rfl)
  · refine lv_if_ne (tgt := 18) hx hb d_Cb_add_12 (by decide) (fun c9 => absurd (by rw [blw_nI (by decide) (by omega), decide_eq_false hlt]; rfl) c9) (fun _ => ?_)
    refine lv_bipush (v := (-3)) hx hb d_Cb_add_15 (by decide) ?_
    refine W.widen (k := 2) (n := 101) (by omega) (by omega) ?_
    exact W.iret (v := (-3)) hx hb hr (fun t9 h9t h9W => ⟨⟨_, (L, f), rfl, Or.inl ⟨by omega, rfl, rfl⟩, by rw [h9t]; exact hP, hD⟩, hS.F h9t⟩) hS.2.2 d_Cb_add_17

set_option maxHeartbeats 4000000 in
set_option maxRecDepth 100000 in
/-- workOutAgain -/
theorem c_Cb_again (l : Launch) (G : GG) (L : List Nat) (f : Nat → va_E) (sz : Nat) (hN : L.Nodup) {cb mA gA n : Nat} {ad wa kd : Nat → Nat} {ka kb kc : Nat → Int32} {wd : Nat → Nat → Int64} {mm : Nat → Bool} (hB : CoB G L f cb mA gA n ad wa kd ka kb kc wd mm) {ca cbb ccc : Nat → Nat} (hO : OkN n kd ka kb kc ca cbb ccc) (hI : inj n wa) (u : Nat) (hu : u < 8) (hW : ∀ i, i < n → ∀ w, w < 96 → w / 12 ≠ u → wd i w = wrd mm wd (kd i) (ca i) (cbb i) (ccc i) w) : Met l y_Cb_workOutAgain (.code y_Cb_workOutAgain b_Cb_workOutAgain 6 none :: AW) (RW 5 0 0) (va_Pc [.ref cb, .int (nI u)] (PZ G L f sz)) (va_Qv (fun v => v.1 = L ∧ ∃ wv, CoB G L v.2 cb mA gA n ad wa kd ka kb kc wv mm ∧ OkW n kd ca cbb ccc wv mm ∧ Kp (fun x => ∃ i, i < n ∧ x = wa i) L f v) (BZ G (Am L sz)) (Am L sz)) 0 0 (Am L sz) := by
  refine Met.ofW (cc := b_Cb_workOutAgain) (maxL := 6) (ret := none) (by decide) rfl ?_
  intro p e s m args below meth c s₁ B hml hv
  obtain ⟨rfl, hsz, hP, hK⟩ := hv
  have hx := B.exec
  have hb := B.bytes
  have hr := B.returns
  have hA : ∀ w ∈ AW, w.before _ s = true := fun w h => atoms_spec (ws := (.code y_Cb_workOutAgain b_Cb_workOutAgain 6 none :: AW)) B.pre w (List.mem_cons_of_mem _ h)
  have hown : s.vm.findClass R_Cb = some m.cls := findClass_of_methodNamed B.named
  have hlocks := B.notSynchronized
  subst hsz
  have hD : va_D (Am L s.heap.size) (va_pl L f) := pl_D hN (fun _ h => Or.inl h)
  have hA0 : ∀ q, s.heap.size ≤ q → Am L s.heap.size q := fun q h => Or.inr h
  generalize Am L s.heap.size = A at hD hA0 ⊢
  have hS : va_S A s.heap s.heap [] := va_S.rf
  have hkp : Kp (fun x => ∃ i, i < n ∧ x = wa i) L f (L, f) := Kp.rf
  have hl := lv_entry ([.ref cb, .int (nI u)]) (n := 6) (Nat.le_of_ble_eq_true rfl)
  rw [lg_entry_eq]
  generalize (lg_sl ([.ref cb, .int (nI u)]) ++ List.replicate (6 - (lg_sl ([.ref cb, .int (nI u)])).length) Slot.unset).toArray = ls at hl ⊢
  have hl : lv_has ls 6 [(0, .ref cb), (1, .int (nI u))] := hl
  have hn60 := hB.1
  refine lv_iconst (v := nI 0) hx hb d_Cb_workOutAgain_0 (by decide) ?_
  refine lv_istore_n (lv' := [(2, .int (nI 0)), (0, .ref cb), (1, .int (nI u))]) hx hb d_Cb_workOutAgain_1 rfl hl (by decide) rfl (fun ls hl => ?_)
  have outer : ∀ (ko i : Nat) (H : Heap) (locs : List Loc) (fv : Nat → va_E) (wv : Nat → Nat → Int64) (ls : Array Slot), i + ko = 60 → OkP n kd ca cbb ccc wv mm u i 0 → CoB G L fv cb mA gA n ad wa kd ka kb kc wv mm → Kp (fun x => ∃ i, i < n ∧ x = wa i) L f (L, fv) → va_P G.1 vwCl (va_pl L fv) H → va_D A (va_pl L fv) → va_S A s.heap H locs → lv_has ls 6 [(0, .ref cb), (1, .int (nI u)), (2, .int (nI i))] → W p l e (headSpec (.code y_Cb_workOutAgain b_Cb_workOutAgain 6 none :: AW) (RW 5 0 0)).room s m ([.ref cb, .int (nI u)] : List Value).toArray below meth c H locs 0 0 (MQ below (va_Qv (fun v => v.1 = L ∧ ∃ wv, CoB G L v.2 cb mA gA n ad wa kd ka kb kc wv mm ∧ OkW n kd ca cbb ccc wv mm ∧ Kp (fun x => ∃ i, i < n ∧ x = wa i) L f v) (BZ G A) A) ([.ref cb, .int (nI u)] : List Value).toArray s 0 0 A) (F0 m 2 ls []) := by
    intro ko
    induction ko with
    | zero =>
      intro i H locs fv wv ls hik hOk hBv hkp hP hD hS hl
      have hcb : Lk L fv cb (.inr (1, [.ref mA, .ref gA, .int (nI n)])) := hBv.2.1
      refine lv_iload_n hx hb d_Cb_workOutAgain_2 rfl (lv_at hl 2 rfl) ?_
      refine lv_bipush (v := nI 60) hx hb d_Cb_workOutAgain_3 (by decide) ?_
      refine lv_icmp_ge (tgt := 63) hx hb d_Cb_workOutAgain_5 (by decide) (fun _ => ?_) (fun c9 => absurd (nI_le (by omega) (by omega)) c9)
      exact W.vret hx hb hr (fun t9 h9t h9W => ⟨⟨(L, fv), rfl, ⟨rfl, wv, hBv, OkP_end hOk (by omega), hkp⟩, by rw [h9t]; exact hP, hD⟩, hS.F h9t⟩) hS.2.2 d_Cb_workOutAgain_63
    | succ ko iho =>
      intro i H locs fv wv ls hik hOk hBv hkp hP hD hS hl
      have hcb : Lk L fv cb (.inr (1, [.ref mA, .ref gA, .int (nI n)])) := hBv.2.1
      refine lv_iload_n hx hb d_Cb_workOutAgain_2 rfl (lv_at hl 2 rfl) ?_
      refine lv_bipush (v := nI 60) hx hb d_Cb_workOutAgain_3 (by decide) ?_
      refine lv_icmp_ge (tgt := 63) hx hb d_Cb_workOutAgain_5 (by decide) (fun c9 => absurd c9 (nI_ge (by omega) (by omega))) (fun _ => ?_)
      refine lv_aload_n hx hb d_Cb_workOutAgain_8 rfl (lv_at hl 0 rfl) ?_
      refine lv_iload_n hx hb d_Cb_workOutAgain_9 rfl (lv_at hl 2 rfl) ?_
      refine va_csq (va_Run.run (va_runV (As := [.int (nI i)]) (rest := []) ⟨hx, hb, hml, hown, hA⟩ (c_Cb_at l G L fv hBv.2.1 hBv.2.2.1 (nI i)) ⟨callB_of 1 hA (gAW kw_18) rfl rfl rfl (hA _ kw_19) (hA _ kw_20) (by decide +kernel) ⟨Nat.le_of_ble_eq_true rfl, Nat.le_of_ble_eq_true rfl⟩, (hA _ kw_21), (hA _ kw_22)⟩ (pw_preV (ci := 1) hP hK hcb rfl) rfl rfl hl.1 rfl (lv_room (Nat.le_of_ble_eq_true rfl)) d_Cb_workOutAgain_10 ⟨Nat.zero_le _, Nat.zero_le _⟩)) (fun r_1 e_2 => ?_)
      subst e_2
      by_cases hin : i < n
      · refine xv_R (a := ad i) (oAt_t (by decide) hn60 hin) ?_
        refine lv_astore_n (lv' := [(3, .ref (ad i)), (0, .ref cb), (1, .int (nI u)), (2, .int (nI i))]) hx hb d_Cb_workOutAgain_13 rfl hl (by decide) rfl (fun ls hl => ?_)
        refine lv_aload_n hx hb d_Cb_workOutAgain_14 rfl (lv_at hl 0 rfl) ?_
        refine lv_ifnonnull (tgt := 19) hx hb d_Cb_workOutAgain_15 (by decide) ?_
        refine lv_iconst (v := nI 0) hx hb d_Cb_workOutAgain_19 (by decide) ?_
        refine lv_istore (lv' := [(4, .int (nI 0)), (3, .ref (ad i)), (0, .ref cb), (1, .int (nI u)), (2, .int (nI i))]) hx hb d_Cb_workOutAgain_20 hl (by decide) rfl (fun ls hl => ?_)
        have inner : ∀ (ki t : Nat) (H : Heap) (locs : List Loc) (fv : Nat → va_E) (wv : Nat → Nat → Int64) (ls : Array Slot), t + ki = 12 → OkP n kd ca cbb ccc wv mm u i t → CoB G L fv cb mA gA n ad wa kd ka kb kc wv mm → Kp (fun x => ∃ i, i < n ∧ x = wa i) L f (L, fv) → va_P G.1 vwCl (va_pl L fv) H → va_D A (va_pl L fv) → va_S A s.heap H locs → lv_has ls 6 [(0, .ref cb), (1, .int (nI u)), (2, .int (nI i)), (3, .ref (ad i)), (4, .int (nI t))] → W p l e (headSpec (.code y_Cb_workOutAgain b_Cb_workOutAgain 6 none :: AW) (RW 5 0 0)).room s m ([.ref cb, .int (nI u)] : List Value).toArray below meth c H locs 0 0 (MQ below (va_Qv (fun v => v.1 = L ∧ ∃ wv, CoB G L v.2 cb mA gA n ad wa kd ka kb kc wv mm ∧ OkW n kd ca cbb ccc wv mm ∧ Kp (fun x => ∃ i, i < n ∧ x = wa i) L f v) (BZ G A) A) ([.ref cb, .int (nI u)] : List Value).toArray s 0 0 A) (F0 m 22 ls []) := by
          intro ki
          induction ki with
          | zero =>
            intro t H locs fv wv ls hik2 hOk hBv hkp hP hD hS hl
            have hcb : Lk L fv cb (.inr (1, [.ref mA, .ref gA, .int (nI n)])) := hBv.2.1
            have hco : Lk L fv (ad i) (.inr (0, [.int (nI (kd i)), .int (ka i), .int (kb i), .int (kc i), .ref (wa i)])) := (hBv.2.2.2.2 i hin).1
            have hwo : Lk L fv (wa i) (.inl (G.2 0, 96, .inr (.inl (wv i)))) := (hBv.2.2.2.2 i hin).2
            obtain rfl : t = 12 := by omega
            refine lv_iload hx hb d_Cb_workOutAgain_22 (lv_at hl 4 rfl) ?_
            refine lv_bipush (v := nI 12) hx hb d_Cb_workOutAgain_24 (by decide) ?_
            refine lv_icmp_ge (tgt := 57) hx hb d_Cb_workOutAgain_26 (by decide) (fun _ => ?_) (fun c9 => absurd (nI_le (by omega) (by omega)) c9)
            refine lv_iinc (v := nI (i + 1)) (lv' := [(2, .int (nI (i + 1))), (0, .ref cb), (1, .int (nI u)), (3, .ref (ad i)), (4, .int (nI 12))]) hx hb d_Cb_workOutAgain_57 hl (k := 2) rfl (nI_1 i) (by decide) rfl (fun ls hl => ?_)
            refine lv_goto (tgt := 2) hx hb d_Cb_workOutAgain_60 (by decide) ?_
            exact iho (i + 1) H locs fv wv ls (by omega) (OkP_next hOk) hBv hkp hP hD hS (lv_sub hl [1, 2, 0] rfl)
          | succ ki ihi =>
            intro t H locs fv wv ls hik2 hOk hBv hkp hP hD hS hl
            have hcb : Lk L fv cb (.inr (1, [.ref mA, .ref gA, .int (nI n)])) := hBv.2.1
            have hco : Lk L fv (ad i) (.inr (0, [.int (nI (kd i)), .int (ka i), .int (kb i), .int (kc i), .ref (wa i)])) := (hBv.2.2.2.2 i hin).1
            have hwo : Lk L fv (wa i) (.inl (G.2 0, 96, .inr (.inl (wv i)))) := (hBv.2.2.2.2 i hin).2
            refine lv_iload hx hb d_Cb_workOutAgain_22 (lv_at hl 4 rfl) ?_
            refine lv_bipush (v := nI 12) hx hb d_Cb_workOutAgain_24 (by decide) ?_
            refine lv_icmp_ge (tgt := 57) hx hb d_Cb_workOutAgain_26 (by decide) (fun c9 => absurd c9 (nI_ge (by omega) (by omega))) (fun _ => ?_)
            refine lv_iload_n hx hb d_Cb_workOutAgain_29 rfl (lv_at hl 1 rfl) ?_
            refine lv_bipush (v := nI 12) hx hb d_Cb_workOutAgain_30 (by decide) ?_
            refine lv_imul hx hb d_Cb_workOutAgain_32 ?_
            refine xv_I (y := nI (u * 12)) (pk_mul _ _) ?_
            refine lv_iload hx hb d_Cb_workOutAgain_33 (lv_at hl 4 rfl) ?_
            refine lv_iadd hx hb d_Cb_workOutAgain_35 ?_
            refine xv_I (y := nI (u * 12 + t)) (nI_add _ _) ?_
            refine lv_istore (lv' := [(5, .int (nI (u * 12 + t))), (0, .ref cb), (1, .int (nI u)), (2, .int (nI i)), (3, .ref (ad i)), (4, .int (nI t))]) hx hb d_Cb_workOutAgain_36 hl (by decide) rfl (fun ls hl => ?_)
            refine lv_aload_n hx hb d_Cb_workOutAgain_38 rfl (lv_at hl 4 rfl) ?_
            refine lv_iload hx hb d_Cb_workOutAgain_39 (lv_at hl 0 rfl) ?_
            refine lv_aload_n hx hb d_Cb_workOutAgain_41 rfl (lv_at hl 1 rfl) ?_
            refine lv_aload_n hx hb d_Cb_workOutAgain_42 rfl (lv_at hl 4 rfl) ?_
            refine lv_iload hx hb d_Cb_workOutAgain_43 (lv_at hl 0 rfl) ?_
            refine vp_callSl (va_Run.run (va_runV (As := [.ref (ad i), .int (nI (u * 12 + t))]) (rest := [.int (nI (u * 12 + t)), .ref (ad i)]) ⟨hx, hb, hml, hown, hA⟩ (c_Cb_work l G L fv hBv hco (okC_mono (hO i hin) (by omega)) (u * 12 + t) (by omega)) ⟨callB_of 2 hA (gAW kw_136) rfl rfl rfl (hA _ kw_19) (hA _ kw_137) (by decide +kernel) ⟨Nat.le_of_ble_eq_true rfl, Nat.le_of_ble_eq_true rfl⟩, (hA _ kw_138), (hA _ kw_139)⟩ (pw_preV (ci := 1) hP hK hcb rfl) rfl rfl hl.1 rfl (lv_room (Nat.le_of_ble_eq_true rfl)) d_Cb_workOutAgain_45 ⟨Nat.zero_le _, Nat.zero_le _⟩)) (fun r_3 e_4 => ?_)
            subst e_4
            have hFc := am_free hD hS hA0
            refine va_callv (va_runVN (As := [.int (nI (u * 12 + t)), .long (wrd mm wv (kd i) (ca i) (cbb i) (ccc i) (u * 12 + t))]) (rest := []) ⟨hx, hb, hml, hown, hA⟩ (c_Co_setWord l G L fv H.size (pl_nd hD) hco hwo (u * 12 + t) (by omega) (wrd mm wv (kd i) (ca i) (cbb i) (ccc i) (u * 12 + t))) ⟨va_cnB 2 hA (gAW kw_140) rfl rfl rfl (hK.2.1 _ kz_30) (hA _ kw_11) (by decide +kernel) ⟨Nat.le_of_ble_eq_true rfl, Nat.le_of_ble_eq_true rfl⟩, (hA _ kw_141), (hA _ kw_142)⟩ (pz_preV (ci := 0) hP hK hco rfl) rfl rfl hl.1 rfl (lv_room (Nat.le_of_ble_eq_true rfl)) d_Cb_workOutAgain_48 ⟨Nat.le_of_ble_eq_true rfl, Nat.le_of_ble_eq_true rfl⟩) hS (fun q _ h => hFc q h) hFc (fun u9 t9 H1 locs ht9 hvm hw hWB hz1 hk1 hS => ?_)
            obtain ⟨L_1, f_1⟩ := u9
            obtain ⟨hP, hD1⟩ := hWB
            rw [ht9] at hP
            have hD := va_Dw hD1 hFc
            clear hD1 hk1 hz1 hFc ht9 hvm
            generalize H1 = H at hP hS ⊢
            dsimp only at hP hD
            obtain ⟨hu1, hu2⟩ := hw
            try dsimp only at hu1 hu2
            replace hu1 := hu1.symm
            subst hu1
            subst hu2
            refine lv_iinc (v := nI (t + 1)) (lv' := [(4, .int (nI (t + 1))), (5, .int (nI (u * 12 + t))), (0, .ref cb), (1, .int (nI u)), (2, .int (nI i)), (3, .ref (ad i))]) hx hb d_Cb_workOutAgain_51 hl (k := 5) rfl (nI_1 t) (by decide) rfl (fun ls hl => ?_)
            refine lv_goto (tgt := 22) hx hb d_Cb_workOutAgain_54 (by decide) ?_
            exact ihi (t + 1) H locs _ _ ls (by omega) (OkP_step hO hOk hin hu (by omega)) (CoB_setw hBv hI hin _) (Kp.up hkp ⟨i, hin, rfl⟩) hP hD hS (lv_sub hl [2, 3, 4, 5, 0] rfl)
        exact inner 12 0 H locs fv wv ls (by omega) hOk hBv hkp hP hD hS (lv_sub hl [2, 3, 4, 1, 0] rfl)
      · refine xv_N (oAt_f (by decide) (by omega) (by omega)) ?_
        refine lv_astore_nN (lv' := [(3, .null), (0, .ref cb), (1, .int (nI u)), (2, .int (nI i))]) hx hb d_Cb_workOutAgain_13 rfl hl (by decide) rfl (fun ls hl => ?_)
        refine lv_aload_nN hx hb d_Cb_workOutAgain_14 rfl (lv_at hl 0 rfl) ?_
        refine lv_ifnonnullN hx hb d_Cb_workOutAgain_15 ?_
        exact W.vret hx hb hr (fun t9 h9t h9W => ⟨⟨(L, fv), rfl, ⟨rfl, wv, hBv, OkP_end hOk (by omega), hkp⟩, by rw [h9t]; exact hP, hD⟩, hS.F h9t⟩) hS.2.2 d_Cb_workOutAgain_18
  exact outer 60 0 s.heap [] f wd ls (by omega) (fun j hj w hw hc => hW j hj w hw (by omega)) hB Kp.rf hP hD hS (lv_sub hl [1, 2, 0] rfl)

set_option maxHeartbeats 4000000 in
set_option maxRecDepth 100000 in
/-- setMember -/
theorem c_Cb_setM (l : Launch) (G : GG) (L : List Nat) (f : Nat → va_E) (sz : Nat) (hN : L.Nodup) {cb mA gA n : Nat} {ad wa kd : Nat → Nat} {ka kb kc : Nat → Int32} {wd : Nat → Nat → Int64} {mm : Nat → Bool} (hB : CoB G L f cb mA gA n ad wa kd ka kb kc wd mm) {ca cbb ccc : Nat → Nat} (hO : OkN n kd ka kb kc ca cbb ccc) (hI : inj n wa) (hW : OkW n kd ca cbb ccc wd mm) (u v : Nat) (b : Bool) (hu : u < 8) (hv_ : v < 8) : Met l y_Cb_setMember (.code y_Cb_setMember b_Cb_setMember 5 (some .boolean) :: AW) (RW 6 0 0) (va_Pc [.ref cb, .int (nI u), .int (nI v), .int (bI b)] (PZ G L f sz)) (va_Qi (fun r z => (mm (u * 8 + v) = b ∧ r = bI false ∧ z = (L, f)) ∨ (¬ mm (u * 8 + v) = b ∧ r = bI true ∧ z.1 = L ∧ ∃ wv, CoB G L z.2 cb mA gA n ad wa kd ka kb kc wv (va_up mm (u * 8 + v) b) ∧ OkW n kd ca cbb ccc wv (va_up mm (u * 8 + v) b) ∧ Kp (fun x => x = gA ∨ ∃ i, i < n ∧ x = wa i) L f z)) (BZ G (Am L sz)) (Am L sz)) 0 0 (Am L sz) := by
  refine Met.ofW (cc := b_Cb_setMember) (maxL := 5) (ret := (some .boolean)) (by decide) rfl ?_
  intro p e s m args below meth c s₁ B hml hv
  obtain ⟨rfl, hsz, hP, hK⟩ := hv
  have hx := B.exec
  have hb := B.bytes
  have hr := B.returns
  have hA : ∀ w ∈ AW, w.before _ s = true := fun w h => atoms_spec (ws := (.code y_Cb_setMember b_Cb_setMember 5 (some .boolean) :: AW)) B.pre w (List.mem_cons_of_mem _ h)
  have hown : s.vm.findClass R_Cb = some m.cls := findClass_of_methodNamed B.named
  have hlocks := B.notSynchronized
  subst hsz
  have hD : va_D (Am L s.heap.size) (va_pl L f) := pl_D hN (fun _ h => Or.inl h)
  have hA0 : ∀ q, s.heap.size ≤ q → Am L s.heap.size q := fun q h => Or.inr h
  generalize Am L s.heap.size = A at hD hA0 ⊢
  have hS : va_S A s.heap s.heap [] := va_S.rf
  have hkp : Kp (fun x => x = gA ∨ ∃ i, i < n ∧ x = wa i) L f (L, f) := Kp.rf
  have hl := lv_entry ([.ref cb, .int (nI u), .int (nI v), .int (bI b)]) (n := 5) (Nat.le_of_ble_eq_true rfl)
  rw [lg_entry_eq]
  generalize (lg_sl ([.ref cb, .int (nI u), .int (nI v), .int (bI b)]) ++ List.replicate (5 - (lg_sl ([.ref cb, .int (nI u), .int (nI v), .int (bI b)])).length) Slot.unset).toArray = ls at hl ⊢
  have hl : lv_has ls 5 [(0, .ref cb), (1, .int (nI u)), (2, .int (nI v)), (3, .int (bI b))] := hl
  have hcb : Lk L f cb (.inr (1, [.ref mA, .ref gA, .int (nI n)])) := hB.2.1
  have hgA : Lk L f gA (.inl (G.2 1, 64, .inl (fun k => bI (mm k)))) := hB.2.2.2.1
  refine lv_aload_n hx hb d_Cb_setMember_0 rfl (lv_at hl 0 rfl) ?_
  refine lv_iload_n hx hb d_Cb_setMember_1 rfl (lv_at hl 1 rfl) ?_
  refine lv_iload_n hx hb d_Cb_setMember_2 rfl (lv_at hl 2 rfl) ?_
  refine vp_callSi (va_Run.run (va_runV (As := [.int (nI u), .int (nI v)]) (rest := []) ⟨hx, hb, hml, hown, hA⟩ (c_Cb_isM l G L f hB u v hu hv_) ⟨callB_of 2 hA (gAW kw_33) rfl rfl rfl (hA _ kw_19) (hA _ kw_34) (by decide +kernel) ⟨Nat.le_of_ble_eq_true rfl, Nat.le_of_ble_eq_true rfl⟩, (hA _ kw_35), (hA _ kw_36)⟩ (pw_preV (ci := 1) hP hK hcb rfl) rfl rfl hl.1 rfl (lv_room (Nat.le_of_ble_eq_true rfl)) d_Cb_setMember_3 ⟨Nat.zero_le _, Nat.zero_le _⟩)) (fun r_1 e_2 => ?_)
  subst e_2
  refine lv_iload_n hx hb d_Cb_setMember_6 rfl (lv_at hl 3 rfl) ?_
  by_cases hs : mm (u * 8 + v) = b
  · refine lv_icmp_ne (tgt := 12) hx hb d_Cb_setMember_7 (by decide) (fun c9 => absurd (congrArg bI hs) c9) (fun _ => ?_)
    refine lv_iconst (v := nI 0) hx hb d_Cb_setMember_10 (by decide) ?_
    exact W.zret (v := nI 0) (ty := .boolean) hx hb hr (bI_nar false) (fun t9 h9t h9W => ⟨⟨_, (L, f), rfl, Or.inl ⟨hs, rfl, rfl⟩, by rw [h9t]; exact hP, hD⟩, hS.F h9t⟩) hS.2.2 d_Cb_setMember_11
  · refine lv_icmp_ne (tgt := 12) hx hb d_Cb_setMember_7 (by decide) (fun _ => ?_) (fun c9 => absurd c9 (fun z => hs (bI_inj z)))
    refine lv_iload_n hx hb d_Cb_setMember_12 rfl (lv_at hl 1 rfl) ?_
    refine lv_bipush (v := nI 8) hx hb d_Cb_setMember_13 (by decide) ?_
    refine lv_imul hx hb d_Cb_setMember_15 ?_
    refine xv_I (y := nI (u * 8)) (pk_mul u 8) ?_
    refine lv_iload_n hx hb d_Cb_setMember_16 rfl (lv_at hl 2 rfl) ?_
    refine lv_iadd hx hb d_Cb_setMember_17 ?_
    refine xv_I (y := nI (u * 8 + v)) (nI_add _ _) ?_
    refine lv_istore (lv' := [(4, .int (nI (u * 8 + v))), (0, .ref cb), (1, .int (nI u)), (2, .int (nI v)), (3, .int (bI b))]) hx hb d_Cb_setMember_18 hl (by decide) rfl (fun ls hl => ?_)
    refine lv_iload hx hb d_Cb_setMember_20 (lv_at hl 0 rfl) ?_
    refine lv_aload_n hx hb d_Cb_setMember_22 rfl (lv_at hl 1 rfl) ?_
    refine va_get (D := G.1) (ci := 1) (v := .ref gA) (C := R_Cb) (T := T_Cb) (N := 3) hx hb hA in_Cb hown hK.1 (pl_o hP hcb) 0 rfl rfl 1 (by decide) (hA _ kw_23) (fun _ h9 => h9) rfl d_Cb_setMember_23 ?_
    refine va_alen (v := nI 64) hx hb hK.1 (pl_o hP hgA) 0 1 rfl rfl rfl d_Cb_setMember_26 ?_
    refine vp_callSi (va_Run.run (va_runSN (As := [.int (nI (u * 8 + v)), .int (nI 64)]) (rest := []) ⟨hx, hb, hml, hown, hA⟩ (c_isBelow l G L f (nI (u * 8 + v)) (nI 64)) ⟨va_cnB 2 hA (gAW kw_4) rfl rfl rfl (hK.2.1 _ kz_1) (hA _ kw_5) (by decide +kernel) ⟨Nat.le_of_ble_eq_true rfl, Nat.le_of_ble_eq_true rfl⟩, (hA _ kw_6), trivial⟩ (pw_preS hP hK) rfl rfl hl.1 rfl (lv_room (Nat.le_of_ble_eq_true rfl)) d_Cb_setMember_27 ⟨Nat.zero_le _, Nat.zero_le _⟩)) (fun r_3 e_4 => ?_)
    subst e_4
    refine lv_if_eq (tgt := 41) hx hb d_Cb_setMember_30 (by decide) (fun c9 => absurd c9 (by rw [blw_nI (by decide) (by omega), decide_eq_true (show u * 8 + v < 64 by omega)]; decide)) (fun _ => ?_)
    refine lv_aload_n hx hb d_Cb_setMember_33 rfl (lv_at hl 1 rfl) ?_
    refine va_get (D := G.1) (ci := 1) (v := .ref gA) (C := R_Cb) (T := T_Cb) (N := 3) hx hb hA in_Cb hown hK.1 (pl_o hP hcb) 0 rfl rfl 1 (by decide) (hA _ kw_23) (fun _ h9 => h9) rfl d_Cb_setMember_34 ?_
    refine lv_iload hx hb d_Cb_setMember_37 (lv_at hl 0 rfl) ?_
    refine lv_iload_n hx hb d_Cb_setMember_39 rfl (lv_at hl 4 rfl) ?_
    refine xw_zast hx hb hK.1 hP hD hS 1 hgA rfl (i := (u * 8 + v)) (x := bI b) (by omega) (by decide) (bI_vp _) d_Cb_setMember_40 (fun H locs hP hD hS => ?_)
    have n_5 : cb ≠ gA := Lk.neOA hcb hgA
    obtain ⟨f_1, ef_1⟩ : ∃ z : Nat → va_E, z = va_up f gA (.inl (G.2 1, 64, .inl (upd (fun k => bI (mm k)) (u * 8 + v) (bI b)))) := ⟨_, rfl⟩
    rw [← ef_1] at hP hD
    have hcb : Lk L f_1 cb (.inr (1, [.ref mA, .ref gA, .int (nI n)])) := by rw [ef_1]; exact Lk.up hcb n_5
    have hgA : Lk L f_1 gA (.inl (G.2 1, 64, .inl (upd (fun k => bI (mm k)) (u * 8 + v) (bI b)))) := by rw [ef_1]; exact Lk.set hgA
    have hkp : Kp (fun x => x = gA ∨ ∃ i, i < n ∧ x = wa i) L f (L, f_1) := by rw [ef_1]; exact hkp.up (Or.inl rfl)
    have hB1 : CoB G L f_1 cb mA gA n ad wa kd ka kb kc wd (va_up mm (u * 8 + v) b) := by rw [ef_1]; exact CoB_setm hB (u * 8 + v) b
    refine lv_aload_n hx hb d_Cb_setMember_41 rfl (lv_at hl 1 rfl) ?_
    refine lv_iload_n hx hb d_Cb_setMember_42 rfl (lv_at hl 2 rfl) ?_
    have hFc := am_free hD hS hA0
    refine va_callv (va_runV (As := [.int (nI u)]) (rest := []) ⟨hx, hb, hml, hown, hA⟩ (c_Cb_again l G L f_1 H.size (pl_nd hD) hB1 hO hI u hu (fun i hi w hw hne => (hW i hi w hw).trans (wrd_mm (fun h1 => (va_up_ne mm b (by have := (hO i hi).2.2.2.2.2.1 h1; omega)).symm)))) ⟨callB_of 1 hA (gAW kw_143) rfl rfl rfl (hA _ kw_19) (hA _ kw_144) (by decide +kernel) ⟨Nat.le_of_ble_eq_true rfl, Nat.le_of_ble_eq_true rfl⟩, (hA _ kw_145), (hA _ kw_146)⟩ (pz_preV (ci := 1) hP hK hcb rfl) rfl rfl hl.1 rfl (lv_room (Nat.le_of_ble_eq_true rfl)) d_Cb_setMember_43 ⟨Nat.le_of_ble_eq_true rfl, Nat.le_of_ble_eq_true rfl⟩) hS (fun q _ h => hFc q h) hFc (fun u9 t9 H1 locs ht9 hvm hw hWB hz1 hk1 hS => ?_)
    obtain ⟨L_2, f_2⟩ := u9
    obtain ⟨hP, hD1⟩ := hWB
    rw [ht9] at hP
    have hD := va_Dw hD1 hFc
    clear hD1 hk1 hz1 hFc ht9 hvm
    generalize H1 = H at hP hS ⊢
    dsimp only at hP hD
    obtain ⟨hu1, wv, hBv, hOk, hk1⟩ := hw
    try dsimp only at hu1 hBv hk1
    replace hu1 := hu1.symm
    subst hu1
    have hkp : Kp (fun x => x = gA ∨ ∃ i, i < n ∧ x = wa i) L f (L, f_2) := hkp.call hk1 (fun a _ z => Or.inr z)
    refine lv_iconst (v := nI 1) hx hb d_Cb_setMember_46 (by decide) ?_
    exact W.zret (v := nI 1) (ty := .boolean) hx hb hr (bI_nar true) (fun t9 h9t h9W => ⟨⟨_, (L, f_2), rfl, Or.inr ⟨hs, rfl, rfl, wv, hBv, hOk, hkp⟩, by rw [h9t]; exact hP, hD⟩, hS.F h9t⟩) hS.2.2 d_Cb_setMember_47
end
section
set_option maxHeartbeats 4000000 in
set_option maxRecDepth 100000 in
/-- RuleBook.add -/
theorem c_Rb_add (l : Launch) (G : GG) (L : List Nat) (f : Nat → va_E) (sz : Nat) (hN : L.Nodup) {cb mA gA cn : Nat} {ad wa kd : Nat → Nat} {ka kb kc : Nat → Int32} {wd : Nat → Nat → Int64} {mm : Nat → Bool} (hC : CoB G L f cb mA gA cn ad wa kd ka kb kc wd mm) {rb rA n : Nat} {rad rc rk nu : Nat → Nat} {dn : Nat → Bool} (hR : RuB0 G L f rb rA n rad rc rk nu dn ad) (hrc : ∀ q, q < n → rc q < cn) (r0 c0 : Nat) (d0 : Bool) (hr0 : r0 < 10) : Met l y_Rb_add (.code y_Rb_add b_Rb_add 7 (some .int) :: AW) (RW 3 1 4) (va_Pc [.ref rb, .int (nI r0), .int (bI d0), .ref (ad c0)] (PZ G L f sz)) (va_Qi (fun r u => (n = 20 ∧ r = -3 ∧ u = (L, f)) ∨ (n < 20 ∧ r = nI n ∧ ∃ fr pl, fr ∉ L ∧ fst0 (isPl n r0 d0 rk dn) 20 0 = some pl ∧ pl ≤ n ∧ Kp (fun a => a = rb ∨ a = rA) L f u ∧ RuB0 G u.1 u.2 rb rA (n + 1) (insA rad pl fr) (insA rc pl c0) (insA rk pl r0) (insA nu pl n) (insA dn pl d0) ad)) (BZ G (Am L sz)) (Am L sz)) 1 4 (Am L sz) := by
  refine Met.ofW (cc := b_Rb_add) (maxL := 7) (ret := (some .int)) (by decide) rfl ?_
  intro p e s m args below meth c s₁ B hml hv
  obtain ⟨rfl, hsz, hP, hK⟩ := hv
  have hx := B.exec
  have hb := B.bytes
  have hr := B.returns
  have hA : ∀ w ∈ AW, w.before _ s = true := fun w h => atoms_spec (ws := (.code y_Rb_add b_Rb_add 7 (some .int) :: AW)) B.pre w (List.mem_cons_of_mem _ h)
  have hown : s.vm.findClass R_Rb = some m.cls := findClass_of_methodNamed B.named
  have hlocks := B.notSynchronized
  subst hsz
  have hD : va_D (Am L s.heap.size) (va_pl L f) := pl_D hN (fun _ h => Or.inl h)
  have hA0 : ∀ q, s.heap.size ≤ q → Am L s.heap.size q := fun q h => Or.inr h
  generalize Am L s.heap.size = A at hD hA0 ⊢
  have hS : va_S A s.heap s.heap [] := va_S.rf
  have hkp : Kp (fun _ => False) L f (L, f) := Kp.rf
  have hl := lv_entry ([.ref rb, .int (nI r0), .int (bI d0), .ref (ad c0)]) (n := 7) (Nat.le_of_ble_eq_true rfl)
  rw [lg_entry_eq]
  generalize (lg_sl ([.ref rb, .int (nI r0), .int (bI d0), .ref (ad c0)]) ++ List.replicate (7 - (lg_sl ([.ref rb, .int (nI r0), .int (bI d0), .ref (ad c0)])).length) Slot.unset).toArray = ls at hl ⊢
  have hl : lv_has ls 7 [(0, .ref rb), (1, .int (nI r0)), (2, .int (bI d0)), (3, .ref (ad c0))] := hl
  have hn20 := hR.1
  have hrb : Lk L f rb (.inr (3, [.ref rA, .int (nI n)])) := hR.2.1
  have hrA : Lk L f rA (.inl (G.2 3, 20, .inr (.inr (.inr (.inr (upto n rad)))))) := hR.2.2.1
  refine lv_aload_n hx hb d_Rb_add_0 rfl (lv_at hl 0 rfl) ?_
  refine va_get (D := G.1) (ci := 3) (v := .int (nI n)) (C := R_Rb) (T := T_Rb) (N := 2) hx hb hA in_Rb hown hK.1 (pl_o hP hrb) 0 rfl rfl 1 (by decide) (hA _ kw_59) (fun _ h9 => h9) rfl d_Rb_add_1 ?_
  refine lv_aload_n hx hb d_Rb_add_4 rfl (lv_at hl 0 rfl) ?_
  refine va_get (D := G.1) (ci := 3) (v := .ref rA) (C := R_Rb) (T := T_Rb) (N := 2) hx hb hA in_Rb hown hK.1 (pl_o hP hrb) 0 rfl rfl 0 (by decide) (hA _ kw_8) (fun _ h9 => h9) rfl d_Rb_add_5 ?_
  refine va_alen (v := nI 20) hx hb hK.1 (pl_o hP hrA) 0 3 rfl rfl rfl d_Rb_add_8 ?_
  refine vp_callSi (va_Run.run (va_runSN (As := [.int (nI n), .int (nI 20)]) (rest := []) ⟨hx, hb, hml, hown, hA⟩ (c_isBelow l G L f (nI n) (nI 20)) ⟨va_cnB 2 hA (gAW kw_4) rfl rfl rfl (hK.2.1 _ kz_2) (hA _ kw_5) (by decide +kernel) ⟨Nat.le_of_ble_eq_true rfl, Nat.le_of_ble_eq_true rfl⟩, (hA _ kw_6), trivial⟩ (pw_preS hP hK) rfl rfl hl.1 rfl (lv_room (Nat.le_of_ble_eq_true rfl)) d_Rb_add_9 ⟨Nat.zero_le _, Nat.zero_le _⟩)) (fun r_1 e_2 => ?_)
  subst e_2
  by_cases hlt : n < 20
  · refine lv_if_ne (tgt := 18) hx hb d_Rb_add_12 (by decide) (fun _ => ?_) (fun c9 => absurd c9 (by rw [blw_nI (by decide) (by omega), decide_eq_true hlt]; decide))
    refine xw_new (D := G.1) (ci := 2) (fs := [.int 0, .int 0, .null, .int 0]) (C := R_Ru) (T := T_Ru) (N := 4) hx hb hA in_Ru ty_Ru tyok_Ru hown (hA _ kw_147) (hA _ kw_148) (hA _ kw_53) hK.1 hP hD hS hA0 rfl (fun j hj => by rcases (show j = 0 ∨ j = 1 ∨ j = 2 ∨ j = 3 by omega) with rfl | rfl | rfl | rfl <;> rfl) (Nat.le_of_ble_eq_true rfl) (Nat.le_of_ble_eq_true rfl) d_Rb_add_18 (fun q_3 H hq_4 hP hD hS => ?_)
    refine W.widen (k := 1) (n := 4) (by omega) (by omega) ?_
    obtain ⟨f_1, ef_1⟩ : ∃ z : Nat → va_E, z = va_up f q_3 (.inr (2, [.int 0, .int 0, .null, .int 0])) := ⟨_, rfl⟩
    obtain ⟨L_1, eL_1⟩ : ∃ z : List Nat, z = L ++ [q_3] := ⟨_, rfl⟩
    rw [← ef_1, ← eL_1] at hP hD
    have hrb : Lk L_1 f_1 rb (.inr (3, [.ref rA, .int (nI n)])) := by rw [ef_1, eL_1]; exact Lk.push hrb hq_4
    have hrA : Lk L_1 f_1 rA (.inl (G.2 3, 20, .inr (.inr (.inr (.inr (upto n rad)))))) := by rw [ef_1, eL_1]; exact Lk.push hrA hq_4
    have t_1 : Lk L_1 f_1 q_3 (.inr (2, [.int 0, .int 0, .null, .int 0])) := by rw [ef_1, eL_1]; exact Lk.new
    have hkp : Kp (fun _ => False) L f (L_1, f_1) := by rw [ef_1, eL_1]; exact hkp.push hq_4
    have hfL : q_3 ∉ L := hq_4
    refine lv_dup hx hb d_Rb_add_21 rfl ?_
    refine lv_aload_n hx hb d_Rb_add_22 rfl (lv_at hl 0 rfl) ?_
    refine va_get (D := G.1) (ci := 3) (v := .int (nI n)) (C := R_Rb) (T := T_Rb) (N := 2) hx hb hA in_Rb hown hK.1 (pl_o hP hrb) 0 rfl rfl 1 (by decide) (hA _ kw_59) (fun _ h9 => h9) rfl d_Rb_add_23 ?_
    refine lv_iload_n hx hb d_Rb_add_26 rfl (lv_at hl 1 rfl) ?_
    refine lv_iload_n hx hb d_Rb_add_27 rfl (lv_at hl 2 rfl) ?_
    refine lv_aload_n hx hb d_Rb_add_28 rfl (lv_at hl 3 rfl) ?_
    have n_5 : ¬ rb = q_3 := Lk.neOO hrb t_1 (by decide)
    have n_6 : ¬ rA = q_3 := Ne.symm (Lk.neOA t_1 hrA)
    have hFc := am_free hD hS hA0
    refine va_callv (va_runIN (As := [.int (nI n), .int (nI r0), .int (bI d0), .ref (ad c0)]) (rest := [.ref q_3]) ⟨hx, hb, hml, hown, hA⟩ (c_Ru_init l G L_1 f_1 H.size (pl_nd hD) t_1 (nI n) (nI r0) d0 (ad c0)) ⟨va_cnB 4 hA (gAW kw_149) rfl rfl rfl (hK.2.1 _ kz_31) (hA _ kw_53) (by decide +kernel) ⟨Nat.le_of_ble_eq_true rfl, Nat.le_of_ble_eq_true rfl⟩, rfl, (hA _ kw_150)⟩ (pz_preS hP hK) rfl rfl hl.1 rfl (lv_room (Nat.le_of_ble_eq_true rfl)) d_Rb_add_29 ⟨Nat.le_of_ble_eq_true rfl, Nat.le_of_ble_eq_true rfl⟩) hS (fun q _ h => hFc q h) hFc (fun u9 t9 H1 locs ht9 hvm hw hWB hz1 hk1 hS => ?_)
    obtain ⟨L_2, f_2⟩ := u9
    obtain ⟨hP, hD1⟩ := hWB
    rw [ht9] at hP
    have hD := va_Dw hD1 hFc
    clear hD1 hk1 hz1 hFc ht9 hvm
    generalize H1 = H at hP hS ⊢
    dsimp only at hP hD
    obtain ⟨hk1, hu1, a1⟩ := hw
    have hrb : Lk L_2 f_2 rb (.inr (3, [.ref rA, .int (nI n)])) := hk1.k hrb n_5
    have hrA : Lk L_2 f_2 rA (.inl (G.2 3, 20, .inr (.inr (.inr (.inr (upto n rad)))))) := hk1.k hrA n_6
    try dsimp only at hu1 a1
    have hkp : Kp (fun _ => False) L f (L_2, f_2) := hkp.call hk1 (fun a ha e => absurd (e ▸ ha) hfL)
    have hC1 : CoB G L_2 f_2 cb mA gA cn ad wa kd ka kb kc wd mm := hC.keep hkp (fun _ _ _ _ z => z)
    have hR1 : RuB0 G L_2 f_2 rb rA n rad rc rk nu dn ad := hR.keep hkp (fun _ _ _ _ z => z)
    refine lv_astore (lv' := [(4, .ref q_3), (0, .ref rb), (1, .int (nI r0)), (2, .int (bI d0)), (3, .ref (ad c0))]) hx hb d_Rb_add_32 hl (by decide) rfl (fun ls hl => ?_)
    refine lv_aload_n hx hb d_Rb_add_34 rfl (lv_at hl 1 rfl) ?_
    refine lv_aload hx hb d_Rb_add_35 (lv_at hl 0 rfl) ?_
    refine vp_callSi (va_Run.run (va_runV (As := [.ref q_3]) (rest := []) ⟨hx, hb, hml, hown, hA⟩ (c_Rb_placeFor l G L_2 f_2 (RuB_of hC1 hR1 hrc) a1 hr0) ⟨callB_of 1 hA (gAW kw_151) rfl rfl rfl (hA _ kw_48) (hA _ kw_152) (by decide +kernel) ⟨Nat.le_of_ble_eq_true rfl, Nat.le_of_ble_eq_true rfl⟩, (hA _ kw_153), (hA _ kw_154)⟩ (pw_preV (ci := 3) hP hK hrb rfl) rfl rfl hl.1 rfl (lv_room (Nat.le_of_ble_eq_true rfl)) d_Rb_add_37 ⟨Nat.le_of_ble_eq_true rfl, Nat.le_of_ble_eq_true rfl⟩)) (fun r_8 e_9 => ?_)
    subst e_9
    obtain ⟨pl, hpl, hpn⟩ : ∃ pl, fst0 (isPl n r0 d0 rk dn) 20 0 = some pl ∧ pl ≤ n := isPl_some hlt
    refine xv_I (y := nI pl) (by rw [hpl]; rfl) ?_
    refine lv_istore (lv' := [(5, .int (nI pl)), (4, .ref q_3), (0, .ref rb), (1, .int (nI r0)), (2, .int (bI d0)), (3, .ref (ad c0))]) hx hb d_Rb_add_40 hl (by decide) rfl (fun ls hl => ?_)
    refine lv_aload_n hx hb d_Rb_add_42 rfl (lv_at hl 2 rfl) ?_
    refine va_get (D := G.1) (ci := 3) (v := .ref rA) (C := R_Rb) (T := T_Rb) (N := 2) hx hb hA in_Rb hown hK.1 (pl_o hP hrb) 0 rfl rfl 0 (by decide) (hA _ kw_8) (fun _ h9 => h9) rfl d_Rb_add_43 ?_
    refine va_alen (v := nI 20) hx hb hK.1 (pl_o hP hrA) 0 3 rfl rfl rfl d_Rb_add_46 ?_
    refine lv_iconst (v := nI 1) hx hb d_Rb_add_47 (by decide) ?_
    refine lv_isub hx hb d_Rb_add_48 ?_
    refine xv_I (y := nI 19) (by decide) ?_
    refine lv_istore (lv' := [(6, .int (nI 19)), (5, .int (nI pl)), (4, .ref q_3), (0, .ref rb), (1, .int (nI r0)), (2, .int (bI d0)), (3, .ref (ad c0))]) hx hb d_Rb_add_49 hl (by decide) rfl (fun ls hl => ?_)
    have loop : ∀ (kk : Nat) (H : Heap) (locs : List Loc) (ls : Array Slot), pl + kk < 20 → va_P G.1 vwCl (va_pl L_2 (va_up f_2 rA (.inl (G.2 3, 20, .inr (.inr (.inr (.inr (shU (pl + kk) (upto n rad))))))))) H → va_D A (va_pl L_2 (va_up f_2 rA (.inl (G.2 3, 20, .inr (.inr (.inr (.inr (shU (pl + kk) (upto n rad))))))))) → va_S A s.heap H locs → lv_has ls 7 [(0, .ref rb), (4, .ref q_3), (5, .int (nI pl)), (6, .int (nI (pl + kk)))] → W p l e (headSpec (.code y_Rb_add b_Rb_add 7 (some .int) :: AW) (RW 3 1 4)).room s m ([.ref rb, .int (nI r0), .int (bI d0), .ref (ad c0)] : List Value).toArray below meth c H locs 1 4 (MQ below (va_Qi (fun r u => (n = 20 ∧ r = -3 ∧ u = (L, f)) ∨ (n < 20 ∧ r = nI n ∧ ∃ fr pl, fr ∉ L ∧ fst0 (isPl n r0 d0 rk dn) 20 0 = some pl ∧ pl ≤ n ∧ Kp (fun a => a = rb ∨ a = rA) L f u ∧ RuB0 G u.1 u.2 rb rA (n + 1) (insA rad pl fr) (insA rc pl c0) (insA rk pl r0) (insA nu pl n) (insA dn pl d0) ad)) (BZ G A) A) ([.ref rb, .int (nI r0), .int (bI d0), .ref (ad c0)] : List Value).toArray s 1 4 A) (F0 m 51 ls []) := by
      intro kk
      induction kk with
      | zero =>
        intro H locs ls hlt2 hP hD hS hl
        have hrb : Lk L_2 (va_up f_2 rA (.inl (G.2 3, 20, .inr (.inr (.inr (.inr (shU (pl + 0) (upto n rad)))))))) rb (.inr (3, [.ref rA, .int (nI n)])) := Lk.up hrb (Lk.neOA hrb hrA)
        have a1_ : Lk L_2 (va_up f_2 rA (.inl (G.2 3, 20, .inr (.inr (.inr (.inr (shU (pl + 0) (upto n rad)))))))) q_3 (.inr (2, [.int (nI r0), .int (bI d0), .ref (ad c0), .int (nI n)])) := Lk.up a1 (Lk.neOA a1 hrA)
        have hrA_ : Lk L_2 (va_up f_2 rA (.inl (G.2 3, 20, .inr (.inr (.inr (.inr (shU (pl + 0) (upto n rad)))))))) rA (.inl (G.2 3, 20, .inr (.inr (.inr (.inr (shU (pl + 0) (upto n rad))))))) := Lk.set hrA
        have hkp : Kp (fun a => a = rb ∨ a = rA) L f (L_2, (va_up f_2 rA (.inl (G.2 3, 20, .inr (.inr (.inr (.inr (shU (pl + 0) (upto n rad))))))))) := Kp.up (hkp.mono (fun _ z => z.elim)) (Or.inr rfl)
        refine lv_iload hx hb d_Rb_add_51 (lv_at hl 3 rfl) ?_
        refine lv_iload hx hb d_Rb_add_53 (lv_at hl 2 rfl) ?_
        refine lv_icmp_le (tgt := 80) hx hb d_Rb_add_55 (by decide) (fun _ => ?_) (fun c9 => absurd (nI_le (by omega) (by omega)) c9)
        refine lv_iload hx hb d_Rb_add_80 (lv_at hl 2 rfl) ?_
        refine lv_aload_n hx hb d_Rb_add_82 rfl (lv_at hl 0 rfl) ?_
        refine va_get (D := G.1) (ci := 3) (v := .ref rA) (C := R_Rb) (T := T_Rb) (N := 2) hx hb hA in_Rb hown hK.1 (pl_o hP hrb) 0 rfl rfl 0 (by decide) (hA _ kw_8) (fun _ h9 => h9) rfl d_Rb_add_83 ?_
        refine va_alen (v := nI 20) hx hb hK.1 (pl_o hP hrA_) 0 3 rfl rfl rfl d_Rb_add_86 ?_
        refine vp_callSi (va_Run.run (va_runSN (As := [.int (nI pl), .int (nI 20)]) (rest := []) ⟨hx, hb, hml, hown, hA⟩ (c_isBelow l G L_2 (va_up f_2 rA (.inl (G.2 3, 20, .inr (.inr (.inr (.inr (shU (pl + 0) (upto n rad)))))))) (nI pl) (nI 20)) ⟨va_cnB 2 hA (gAW kw_4) rfl rfl rfl (hK.2.1 _ kz_2) (hA _ kw_5) (by decide +kernel) ⟨Nat.le_of_ble_eq_true rfl, Nat.le_of_ble_eq_true rfl⟩, (hA _ kw_6), trivial⟩ (pw_preS hP hK) rfl rfl hl.1 rfl (lv_room (Nat.le_of_ble_eq_true rfl)) d_Rb_add_87 ⟨Nat.le_of_ble_eq_true rfl, Nat.le_of_ble_eq_true rfl⟩)) (fun r_10 e_11 => ?_)
        subst e_11
        refine lv_if_eq (tgt := 102) hx hb d_Rb_add_90 (by decide) (fun c9 => absurd c9 (by rw [blw_nI (by decide) (by omega), decide_eq_true (show pl < 20 by omega)]; decide)) (fun _ => ?_)
        refine lv_aload_n hx hb d_Rb_add_93 rfl (lv_at hl 0 rfl) ?_
        refine va_get (D := G.1) (ci := 3) (v := .ref rA) (C := R_Rb) (T := T_Rb) (N := 2) hx hb hA in_Rb hown hK.1 (pl_o hP hrb) 0 rfl rfl 0 (by decide) (hA _ kw_8) (fun _ h9 => h9) rfl d_Rb_add_94 ?_
        refine lv_iload hx hb d_Rb_add_97 (lv_at hl 2 rfl) ?_
        refine lv_aload hx hb d_Rb_add_99 (lv_at hl 1 rfl) ?_
        refine xw_astq hx hb hK.1 hP hD hS 3 2 hrA_ rfl a1_ rfl (i := pl) (by omega) (by decide) d_Rb_add_101 (fun H locs hP hD hS => ?_)
        have n_12 : rb ≠ rA := Lk.neOA hrb hrA_
        have n_13 : q_3 ≠ rA := Lk.neOA a1_ hrA_
        obtain ⟨f_3, ef_3⟩ : ∃ z : Nat → va_E, z = va_up (va_up f_2 rA (.inl (G.2 3, 20, .inr (.inr (.inr (.inr (shU (pl + 0) (upto n rad)))))))) rA (.inl (G.2 3, 20, .inr (.inr (.inr (.inr (va_up (shU (pl + 0) (upto n rad)) pl (some q_3))))))) := ⟨_, rfl⟩
        rw [← ef_3] at hP hD
        have hrb : Lk L_2 f_3 rb (.inr (3, [.ref rA, .int (nI n)])) := by rw [ef_3]; exact Lk.up hrb n_12
        have a1_ : Lk L_2 f_3 q_3 (.inr (2, [.int (nI r0), .int (bI d0), .ref (ad c0), .int (nI n)])) := by rw [ef_3]; exact Lk.up a1_ n_13
        have hrA_ : Lk L_2 f_3 rA (.inl (G.2 3, 20, .inr (.inr (.inr (.inr (va_up (shU (pl + 0) (upto n rad)) pl (some q_3))))))) := by rw [ef_3]; exact Lk.set hrA_
        have hkp : Kp (fun a => a = rb ∨ a = rA) L f (L_2, f_3) := by rw [ef_3]; exact hkp.up (Or.inr rfl)
        refine lv_aload_n hx hb d_Rb_add_102 rfl (lv_at hl 0 rfl) ?_
        refine lv_dup hx hb d_Rb_add_103 rfl ?_
        refine va_get (D := G.1) (ci := 3) (v := .int (nI n)) (C := R_Rb) (T := T_Rb) (N := 2) hx hb hA in_Rb hown hK.1 (pl_o hP hrb) 0 rfl rfl 1 (by decide) (hA _ kw_59) (fun _ h9 => h9) rfl d_Rb_add_104 ?_
        refine lv_iconst (v := nI 1) hx hb d_Rb_add_107 (by decide) ?_
        refine lv_iadd hx hb d_Rb_add_108 ?_
        refine xv_I (y := nI (n + 1)) (nI_1 n) ?_
        refine xw_put (D := G.1) (ci := 3) (v := .int (nI (n + 1))) (ty := .int) (C := R_Rb) (T := T_Rb) (N := 2) (fs' := [.ref rA, .int (nI (n + 1))]) hx hb hA in_Rb ty_Rb tyok_Rb nm_Rb hown hK.1 hP hD hS hrb rfl 1 (by decide) (hA _ kw_59) (fun _ h9 => h9) rfl (by decide +kernel) rfl rfl (Nat.le_of_ble_eq_true rfl) d_Rb_add_109 rfl (fun H locs hP hD hS => ?_)
        have n_14 : q_3 ≠ rb := Lk.neOO a1_ hrb (by decide)
        have n_15 : rA ≠ rb := Ne.symm (Lk.neOA hrb hrA_)
        obtain ⟨f_4, ef_4⟩ : ∃ z : Nat → va_E, z = va_up f_3 rb (.inr (3, [.ref rA, .int (nI (n + 1))])) := ⟨_, rfl⟩
        rw [← ef_4] at hP hD
        have a1_ : Lk L_2 f_4 q_3 (.inr (2, [.int (nI r0), .int (bI d0), .ref (ad c0), .int (nI n)])) := by rw [ef_4]; exact Lk.up a1_ n_14
        have hrA_ : Lk L_2 f_4 rA (.inl (G.2 3, 20, .inr (.inr (.inr (.inr (va_up (shU (pl + 0) (upto n rad)) pl (some q_3))))))) := by rw [ef_4]; exact Lk.up hrA_ n_15
        have hrb : Lk L_2 f_4 rb (.inr (3, [.ref rA, .int (nI (n + 1))])) := by rw [ef_4]; exact Lk.set hrb
        have hkp : Kp (fun a => a = rb ∨ a = rA) L f (L_2, f_4) := by rw [ef_4]; exact hkp.up (Or.inl rfl)
        refine lv_aload hx hb d_Rb_add_112 (lv_at hl 1 rfl) ?_
        refine va_getN (D := G.1) (ci := 2) (v := .int (nI n)) (C := R_Ru) (T := T_Ru) (N := 4) hx hb hA in_Ru hown hK.1 (pl_o hP a1_) 0 rfl rfl 3 (by decide) (va_Nw.use rfl (hK.2.1 _ kz_11)) (fun _ h9 => h9) rfl d_Rb_add_114 ?_
        exact W.iret (v := nI n) hx hb hr (fun t9 h9t h9W => ⟨⟨_, (L_2, f_4), rfl, Or.inr ⟨hlt, rfl, q_3, pl, hfL, hpl, hpn, hkp, RuB0_ins hR hlt hpn hr0 hkp hrb hrA_ a1_⟩, by rw [h9t]; exact hP, hD⟩, hS.F h9t⟩) hS.2.2 d_Rb_add_117
      | succ kk ih =>
        intro H locs ls hlt2 hP hD hS hl
        have hrb : Lk L_2 (va_up f_2 rA (.inl (G.2 3, 20, .inr (.inr (.inr (.inr (shU (pl + (kk + 1)) (upto n rad)))))))) rb (.inr (3, [.ref rA, .int (nI n)])) := Lk.up hrb (Lk.neOA hrb hrA)
        have a1_ : Lk L_2 (va_up f_2 rA (.inl (G.2 3, 20, .inr (.inr (.inr (.inr (shU (pl + (kk + 1)) (upto n rad)))))))) q_3 (.inr (2, [.int (nI r0), .int (bI d0), .ref (ad c0), .int (nI n)])) := Lk.up a1 (Lk.neOA a1 hrA)
        have hrA_ : Lk L_2 (va_up f_2 rA (.inl (G.2 3, 20, .inr (.inr (.inr (.inr (shU (pl + (kk + 1)) (upto n rad)))))))) rA (.inl (G.2 3, 20, .inr (.inr (.inr (.inr (shU (pl + (kk + 1)) (upto n rad))))))) := Lk.set hrA
        have hkp : Kp (fun a => a = rb ∨ a = rA) L f (L_2, (va_up f_2 rA (.inl (G.2 3, 20, .inr (.inr (.inr (.inr (shU (pl + (kk + 1)) (upto n rad))))))))) := Kp.up (hkp.mono (fun _ z => z.elim)) (Or.inr rfl)
        refine lv_iload hx hb d_Rb_add_51 (lv_at hl 3 rfl) ?_
        refine lv_iload hx hb d_Rb_add_53 (lv_at hl 2 rfl) ?_
        refine lv_icmp_le (tgt := 80) hx hb d_Rb_add_55 (by decide) (fun c9 => absurd c9 (fun z => absurd ((nI_leI (by omega) (by omega)).mp z) (by omega))) (fun _ => ?_)
        refine lv_aload_n hx hb d_Rb_add_58 rfl (lv_at hl 0 rfl) ?_
        refine va_get (D := G.1) (ci := 3) (v := .ref rA) (C := R_Rb) (T := T_Rb) (N := 2) hx hb hA in_Rb hown hK.1 (pl_o hP hrb) 0 rfl rfl 0 (by decide) (hA _ kw_8) (fun _ h9 => h9) rfl d_Rb_add_59 ?_
        refine lv_iload hx hb d_Rb_add_62 (lv_at hl 3 rfl) ?_
        refine lv_aload_n hx hb d_Rb_add_64 rfl (lv_at hl 0 rfl) ?_
        refine va_get (D := G.1) (ci := 3) (v := .ref rA) (C := R_Rb) (T := T_Rb) (N := 2) hx hb hA in_Rb hown hK.1 (pl_o hP hrb) 0 rfl rfl 0 (by decide) (hA _ kw_8) (fun _ h9 => h9) rfl d_Rb_add_65 ?_
        refine lv_iload hx hb d_Rb_add_68 (lv_at hl 3 rfl) ?_
        refine lv_iconst (v := nI 1) hx hb d_Rb_add_70 (by decide) ?_
        refine lv_isub hx hb d_Rb_add_71 ?_
        refine xv_I (y := nI (pl + kk)) ((pk_sub (by omega)).trans (congrArg nI (by omega))) ?_
        refine xl_aldq hx hb hK.1 (pl_o hP hrA_) 0 3 rfl rfl (i := (pl + kk)) (by omega) (by decide) d_Rb_add_72 ?_
        refine xv_Q (y := upto n rad (pl + kk)) (shU_at (by omega) _) ?_
        by_cases hin : pl + kk < n
        · refine xv_R (a := rad (pl + kk)) (upto_t hin) ?_
          have hrq : Lk L_2 (va_up f_2 rA (.inl (G.2 3, 20, .inr (.inr (.inr (.inr (shU (pl + (kk + 1)) (upto n rad)))))))) (rad (pl + kk)) (.inr (2, [.int (nI (rk (pl + kk))), .int (bI (dn (pl + kk))), .ref (ad (rc (pl + kk))), .int (nI (nu (pl + kk)))])) := Lk.up (hR1.2.2.2 _ hin).2.2 (Lk.neOA (hR1.2.2.2 _ hin).2.2 hrA)
          refine xw_astq hx hb hK.1 hP hD hS 3 2 hrA_ rfl hrq rfl (i := pl + kk + 1) (by omega) (by decide) d_Rb_add_73 (fun H locs hP hD hS => ?_)
          rw [bx_uu, ← upto_t (ad := rad) hin, show pl + (kk + 1) = pl + kk + 1 from rfl, shU_s (by omega)] at hP hD
          refine lv_iinc (v := nI (pl + kk)) (lv' := [(6, .int (nI (pl + kk))), (0, .ref rb), (4, .ref q_3), (5, .int (nI pl))]) hx hb d_Rb_add_74 hl (k := 3) rfl (pk_m1 (pl + kk)) (by decide) rfl (fun ls hl => ?_)
          refine lv_goto (tgt := 51) hx hb d_Rb_add_77 (by decide) ?_
          exact ih H locs ls (by omega) hP hD hS (lv_sub hl [1, 2, 3, 0] rfl)
        · refine xv_N (upto_f (by omega)) ?_
          refine xw_astqN (C := "RightDesk$Rule") hx hb hK.1 hP hD hS 3 hrA_ rfl (i := pl + kk + 1) (by omega) (by decide) d_Rb_add_73 (fun H locs hP hD hS => ?_)
          rw [bx_uu, ← upto_f (ad := rad) (show n ≤ pl + kk by omega), show pl + (kk + 1) = pl + kk + 1 from rfl, shU_s (by omega)] at hP hD
          refine lv_iinc (v := nI (pl + kk)) (lv' := [(6, .int (nI (pl + kk))), (0, .ref rb), (4, .ref q_3), (5, .int (nI pl))]) hx hb d_Rb_add_74 hl (k := 3) rfl (pk_m1 (pl + kk)) (by decide) rfl (fun ls hl => ?_)
          refine lv_goto (tgt := 51) hx hb d_Rb_add_77 (by decide) ?_
          exact ih H locs ls (by omega) hP hD hS (lv_sub hl [1, 2, 3, 0] rfl)
    have e0 : f_2 = va_up f_2 rA (.inl (G.2 3, 20, .inr (.inr (.inr (.inr (shU 19 (upto n rad))))))) := va_up_id (by rw [hrA.2, ← shU_0])
    rw [e0, show (19 : Nat) = pl + (19 - pl) by omega] at hP hD
    have hl : lv_has ls 7 [(6, .int (nI (pl + (19 - pl)))), (5, .int (nI pl)), (4, .ref q_3), (0, .ref rb), (1, .int (nI r0)), (2, .int (bI d0)), (3, .ref (ad c0))] := by rw [show pl + (19 - pl) = 19 by omega]; exact hl
    exact loop (19 - pl) H locs ls (by omega) hP hD hS (lv_sub hl [3, 2, 1, 0] rfl)
  · refine lv_if_ne (tgt := 18) hx hb d_Rb_add_12 (by decide) (fun c9 => absurd (by rw [blw_nI (by decide) (by omega), decide_eq_false hlt]; rfl) c9) (fun _ => ?_)
    refine lv_bipush (v := (-3)) hx hb d_Rb_add_15 (by decide) ?_
    refine W.widen (k := 1) (n := 4) (by omega) (by omega) ?_
    exact W.iret (v := (-3)) hx hb hr (fun t9 h9t h9W => ⟨⟨_, (L, f), rfl, Or.inl ⟨by omega, rfl, rfl⟩, by rw [h9t]; exact hP, hD⟩, hS.F h9t⟩) hS.2.2 d_Rb_add_17

set_option maxHeartbeats 4000000 in
set_option maxRecDepth 100000 in
/-- RuleBook.remove -/
theorem c_Rb_rem (l : Launch) (G : GG) (L : List Nat) (f : Nat → va_E) (sz : Nat) (hN : L.Nodup) {ad : Nat → Nat} {rb rA n : Nat} {rad rc rk nu : Nat → Nat} {dn : Nat → Bool} (hR : RuB0 G L f rb rA n rad rc rk nu dn ad) (hI : inj n rad) (pl no : Nat) (hp_ : pl < n) (hno : no < 20) : Met l y_Rb_remove (.code y_Rb_remove b_Rb_remove 5 (some .int) :: AW) (RW 2 0 0) (va_Pc [.ref rb, .int (nI pl), .int (nI no)] (PZ G L f sz)) (va_Qi (fun r u => r = nI (n - 1) ∧ u.1 = L ∧ Kp (fun a => a = rb ∨ a = rA ∨ ∃ q, q < n ∧ a = rad q) L f u ∧ RuB0 G L u.2 rb rA (n - 1) (delA rad pl) (delA rc pl) (delA rk pl) (decK no 20 (delA nu pl)) (delA dn pl) ad) (BZ G (Am L sz)) (Am L sz)) 0 0 (Am L sz) := by
  refine Met.ofW (cc := b_Rb_remove) (maxL := 5) (ret := (some .int)) (by decide) rfl ?_
  intro p e s m args below meth c s₁ B hml hv
  obtain ⟨rfl, hsz, hP, hK⟩ := hv
  have hx := B.exec
  have hb := B.bytes
  have hr := B.returns
  have hA : ∀ w ∈ AW, w.before _ s = true := fun w h => atoms_spec (ws := (.code y_Rb_remove b_Rb_remove 5 (some .int) :: AW)) B.pre w (List.mem_cons_of_mem _ h)
  have hown : s.vm.findClass R_Rb = some m.cls := findClass_of_methodNamed B.named
  have hlocks := B.notSynchronized
  subst hsz
  have hD : va_D (Am L s.heap.size) (va_pl L f) := pl_D hN (fun _ h => Or.inl h)
  have hA0 : ∀ q, s.heap.size ≤ q → Am L s.heap.size q := fun q h => Or.inr h
  generalize Am L s.heap.size = A at hD hA0 ⊢
  have hS : va_S A s.heap s.heap [] := va_S.rf
  have hkp : Kp (fun a => a = rb ∨ a = rA) L f (L, f) := Kp.rf
  have hl := lv_entry ([.ref rb, .int (nI pl), .int (nI no)]) (n := 5) (Nat.le_of_ble_eq_true rfl)
  rw [lg_entry_eq]
  generalize (lg_sl ([.ref rb, .int (nI pl), .int (nI no)]) ++ List.replicate (5 - (lg_sl ([.ref rb, .int (nI pl), .int (nI no)])).length) Slot.unset).toArray = ls at hl ⊢
  have hl : lv_has ls 5 [(0, .ref rb), (1, .int (nI pl)), (2, .int (nI no))] := hl
  have hn20 := hR.1
  have hrb : Lk L f rb (.inr (3, [.ref rA, .int (nI n)])) := hR.2.1
  have hrA : Lk L f rA (.inl (G.2 3, 20, .inr (.inr (.inr (.inr (upto n rad)))))) := hR.2.2.1
  refine lv_iload_n hx hb d_Rb_remove_0 rfl (lv_at hl 1 rfl) ?_
  refine lv_aload_n hx hb d_Rb_remove_1 rfl (lv_at hl 0 rfl) ?_
  refine va_get (D := G.1) (ci := 3) (v := .ref rA) (C := R_Rb) (T := T_Rb) (N := 2) hx hb hA in_Rb hown hK.1 (pl_o hP hrb) 0 rfl rfl 0 (by decide) (hA _ kw_8) (fun _ h9 => h9) rfl d_Rb_remove_2 ?_
  refine va_alen (v := nI 20) hx hb hK.1 (pl_o hP hrA) 0 3 rfl rfl rfl d_Rb_remove_5 ?_
  refine vp_callSi (va_Run.run (va_runSN (As := [.int (nI pl), .int (nI 20)]) (rest := []) ⟨hx, hb, hml, hown, hA⟩ (c_isBelow l G L f (nI pl) (nI 20)) ⟨va_cnB 2 hA (gAW kw_4) rfl rfl rfl (hK.2.1 _ kz_2) (hA _ kw_5) (by decide +kernel) ⟨Nat.le_of_ble_eq_true rfl, Nat.le_of_ble_eq_true rfl⟩, (hA _ kw_6), trivial⟩ (pw_preS hP hK) rfl rfl hl.1 rfl (lv_room (Nat.le_of_ble_eq_true rfl)) d_Rb_remove_6 ⟨Nat.zero_le _, Nat.zero_le _⟩)) (fun r_1 e_2 => ?_)
  subst e_2
  refine lv_if_eq (tgt := 68) hx hb d_Rb_remove_9 (by decide) (fun c9 => absurd c9 (by rw [blw_nI (by decide) (by omega), decide_eq_true (show pl < 20 by omega)]; decide)) (fun _ => ?_)
  refine lv_iload_n hx hb d_Rb_remove_12 rfl (lv_at hl 1 rfl) ?_
  refine lv_istore_n (lv' := [(3, .int (nI pl)), (0, .ref rb), (1, .int (nI pl)), (2, .int (nI no))]) hx hb d_Rb_remove_13 rfl hl (by decide) rfl (fun ls hl => ?_)
  have loop : ∀ (kk j : Nat) (H : Heap) (locs : List Loc) (ls : Array Slot), j + kk = 19 → pl ≤ j → va_P G.1 vwCl (va_pl L (va_up f rA (.inl (G.2 3, 20, .inr (.inr (.inr (.inr (shD pl j (upto n rad))))))))) H → va_D A (va_pl L (va_up f rA (.inl (G.2 3, 20, .inr (.inr (.inr (.inr (shD pl j (upto n rad))))))))) → va_S A s.heap H locs → lv_has ls 5 [(0, .ref rb), (2, .int (nI no)), (3, .int (nI j))] → W p l e (headSpec (.code y_Rb_remove b_Rb_remove 5 (some .int) :: AW) (RW 2 0 0)).room s m ([.ref rb, .int (nI pl), .int (nI no)] : List Value).toArray below meth c H locs 0 0 (MQ below (va_Qi (fun r u => r = nI (n - 1) ∧ u.1 = L ∧ Kp (fun a => a = rb ∨ a = rA ∨ ∃ q, q < n ∧ a = rad q) L f u ∧ RuB0 G L u.2 rb rA (n - 1) (delA rad pl) (delA rc pl) (delA rk pl) (decK no 20 (delA nu pl)) (delA dn pl) ad) (BZ G A) A) ([.ref rb, .int (nI pl), .int (nI no)] : List Value).toArray s 0 0 A) (F0 m 14 ls []) := by
    intro kk
    induction kk with
    | zero =>
      intro j H locs ls hik hpj hP hD hS hl
      have hrb : Lk L (va_up f rA (.inl (G.2 3, 20, .inr (.inr (.inr (.inr (shD pl j (upto n rad)))))))) rb (.inr (3, [.ref rA, .int (nI n)])) := Lk.up hrb (Lk.neOA hrb hrA)
      have hrA_ : Lk L (va_up f rA (.inl (G.2 3, 20, .inr (.inr (.inr (.inr (shD pl j (upto n rad)))))))) rA (.inl (G.2 3, 20, .inr (.inr (.inr (.inr (shD pl j (upto n rad))))))) := Lk.set hrA
      obtain rfl : j = 19 := by omega
      refine lv_iload_n hx hb d_Rb_remove_14 rfl (lv_at hl 2 rfl) ?_
      refine lv_aload_n hx hb d_Rb_remove_15 rfl (lv_at hl 0 rfl) ?_
      refine va_get (D := G.1) (ci := 3) (v := .ref rA) (C := R_Rb) (T := T_Rb) (N := 2) hx hb hA in_Rb hown hK.1 (pl_o hP hrb) 0 rfl rfl 0 (by decide) (hA _ kw_8) (fun _ h9 => h9) rfl d_Rb_remove_16 ?_
      refine va_alen (v := nI 20) hx hb hK.1 (pl_o hP hrA_) 0 3 rfl rfl rfl d_Rb_remove_19 ?_
      refine lv_iconst (v := nI 1) hx hb d_Rb_remove_20 (by decide) ?_
      refine lv_isub hx hb d_Rb_remove_21 ?_
      refine xv_I (y := nI 19) (by decide) ?_
      refine lv_icmp_ge (tgt := 45) hx hb d_Rb_remove_22 (by decide) (fun _ => ?_) (fun c9 => absurd (nI_le (by omega) (by omega)) c9)
      have hkp : Kp (fun a => a = rb ∨ a = rA) L f (L, (va_up f rA (.inl (G.2 3, 20, .inr (.inr (.inr (.inr (shD pl 19 (upto n rad))))))))) := Kp.up Kp.rf (Or.inr rfl)
      refine lv_aload_n hx hb d_Rb_remove_45 rfl (lv_at hl 0 rfl) ?_
      refine va_get (D := G.1) (ci := 3) (v := .ref rA) (C := R_Rb) (T := T_Rb) (N := 2) hx hb hA in_Rb hown hK.1 (pl_o hP hrb) 0 rfl rfl 0 (by decide) (hA _ kw_8) (fun _ h9 => h9) rfl d_Rb_remove_46 ?_
      refine lv_aload_n hx hb d_Rb_remove_49 rfl (lv_at hl 0 rfl) ?_
      refine va_get (D := G.1) (ci := 3) (v := .ref rA) (C := R_Rb) (T := T_Rb) (N := 2) hx hb hA in_Rb hown hK.1 (pl_o hP hrb) 0 rfl rfl 0 (by decide) (hA _ kw_8) (fun _ h9 => h9) rfl d_Rb_remove_50 ?_
      refine va_alen (v := nI 20) hx hb hK.1 (pl_o hP hrA_) 0 3 rfl rfl rfl d_Rb_remove_53 ?_
      refine lv_iconst (v := nI 1) hx hb d_Rb_remove_54 (by decide) ?_
      refine lv_isub hx hb d_Rb_remove_55 ?_
      refine xv_I (y := nI 19) (by decide) ?_
      refine lv_null hx hb d_Rb_remove_56 ?_
      refine xw_astqN hx hb hK.1 hP hD hS 3 hrA_ rfl (i := 19) (by omega) (by decide) d_Rb_remove_57 (fun H locs hP hD hS => ?_)
      have n_3 : rb ≠ rA := Lk.neOA hrb hrA_
      obtain ⟨f_1, ef_1⟩ : ∃ z : Nat → va_E, z = va_up (va_up f rA (.inl (G.2 3, 20, .inr (.inr (.inr (.inr (shD pl 19 (upto n rad)))))))) rA (.inl (G.2 3, 20, .inr (.inr (.inr (.inr (va_up (shD pl 19 (upto n rad)) 19 none)))))) := ⟨_, rfl⟩
      rw [← ef_1] at hP hD
      have hrb : Lk L f_1 rb (.inr (3, [.ref rA, .int (nI n)])) := by rw [ef_1]; exact Lk.up hrb n_3
      have hrA_ : Lk L f_1 rA (.inl (G.2 3, 20, .inr (.inr (.inr (.inr (va_up (shD pl 19 (upto n rad)) 19 none)))))) := by rw [ef_1]; exact Lk.set hrA_
      have hkp : Kp (fun a => a = rb ∨ a = rA) L f (L, f_1) := by rw [ef_1]; exact hkp.up (Or.inr rfl)
      refine lv_aload_n hx hb d_Rb_remove_58 rfl (lv_at hl 0 rfl) ?_
      refine lv_dup hx hb d_Rb_remove_59 rfl ?_
      refine va_get (D := G.1) (ci := 3) (v := .int (nI n)) (C := R_Rb) (T := T_Rb) (N := 2) hx hb hA in_Rb hown hK.1 (pl_o hP hrb) 0 rfl rfl 1 (by decide) (hA _ kw_59) (fun _ h9 => h9) rfl d_Rb_remove_60 ?_
      refine lv_iconst (v := nI 1) hx hb d_Rb_remove_63 (by decide) ?_
      refine lv_isub hx hb d_Rb_remove_64 ?_
      refine xv_I (y := nI (n - 1)) (pk_sub (by omega)) ?_
      refine xw_put (D := G.1) (ci := 3) (v := .int (nI (n - 1))) (ty := .int) (C := R_Rb) (T := T_Rb) (N := 2) (fs' := [.ref rA, .int (nI (n - 1))]) hx hb hA in_Rb ty_Rb tyok_Rb nm_Rb hown hK.1 hP hD hS hrb rfl 1 (by decide) (hA _ kw_59) (fun _ h9 => h9) rfl (by decide +kernel) rfl rfl (Nat.le_of_ble_eq_true rfl) d_Rb_remove_65 rfl (fun H locs hP hD hS => ?_)
      have n_4 : rA ≠ rb := Ne.symm (Lk.neOA hrb hrA_)
      obtain ⟨f_2, ef_2⟩ : ∃ z : Nat → va_E, z = va_up f_1 rb (.inr (3, [.ref rA, .int (nI (n - 1))])) := ⟨_, rfl⟩
      rw [← ef_2] at hP hD
      have hrA_ : Lk L f_2 rA (.inl (G.2 3, 20, .inr (.inr (.inr (.inr (va_up (shD pl 19 (upto n rad)) 19 none)))))) := by rw [ef_2]; exact Lk.up hrA_ n_4
      have hrb : Lk L f_2 rb (.inr (3, [.ref rA, .int (nI (n - 1))])) := by rw [ef_2]; exact Lk.set hrb
      have hkp : Kp (fun a => a = rb ∨ a = rA) L f (L, f_2) := by rw [ef_2]; exact hkp.up (Or.inl rfl)
      have hR1 := RuB0_del hR hp_ hkp hrb hrA_
      have hkp : Kp (fun a => a = rb ∨ a = rA ∨ ∃ q, q < n ∧ a = rad q) L f (L, f_2) := hkp.mono (fun a z => z.elim Or.inl (fun y => Or.inr (Or.inl y)))
      refine lv_iconst (v := nI 0) hx hb d_Rb_remove_68 (by decide) ?_
      refine lv_istore_n (lv' := [(3, .int (nI 0)), (0, .ref rb), (2, .int (nI no))]) hx hb d_Rb_remove_69 rfl hl (by decide) rfl (fun ls hl => ?_)
      have loop2 : ∀ (kk j : Nat) (H : Heap) (locs : List Loc) (fv : Nat → va_E) (ls : Array Slot), j + kk = 20 → RuB0 G L fv rb rA (n - 1) (delA rad pl) (delA rc pl) (delA rk pl) (decK no j (delA nu pl)) (delA dn pl) ad → Kp (fun a => a = rb ∨ a = rA ∨ ∃ q, q < n ∧ a = rad q) L f (L, fv) → va_P G.1 vwCl (va_pl L fv) H → va_D A (va_pl L fv) → va_S A s.heap H locs → lv_has ls 5 [(0, .ref rb), (2, .int (nI no)), (3, .int (nI j))] → W p l e (headSpec (.code y_Rb_remove b_Rb_remove 5 (some .int) :: AW) (RW 2 0 0)).room s m ([.ref rb, .int (nI pl), .int (nI no)] : List Value).toArray below meth c H locs 0 0 (MQ below (va_Qi (fun r u => r = nI (n - 1) ∧ u.1 = L ∧ Kp (fun a => a = rb ∨ a = rA ∨ ∃ q, q < n ∧ a = rad q) L f u ∧ RuB0 G L u.2 rb rA (n - 1) (delA rad pl) (delA rc pl) (delA rk pl) (decK no 20 (delA nu pl)) (delA dn pl) ad) (BZ G A) A) ([.ref rb, .int (nI pl), .int (nI no)] : List Value).toArray s 0 0 A) (F0 m 70 ls []) := by
        intro kk
        induction kk with
        | zero =>
          intro j H locs fv ls hik2 hRv hkp hP hD hS hl
          have hrb : Lk L fv rb (.inr (3, [.ref rA, .int (nI (n - 1))])) := hRv.2.1
          have hrA : Lk L fv rA (.inl (G.2 3, 20, .inr (.inr (.inr (.inr (upto (n - 1) (delA rad pl))))))) := hRv.2.2.1
          refine lv_iload_n hx hb d_Rb_remove_70 rfl (lv_at hl 2 rfl) ?_
          refine lv_aload_n hx hb d_Rb_remove_71 rfl (lv_at hl 0 rfl) ?_
          refine va_get (D := G.1) (ci := 3) (v := .ref rA) (C := R_Rb) (T := T_Rb) (N := 2) hx hb hA in_Rb hown hK.1 (pl_o hP hrb) 0 rfl rfl 0 (by decide) (hA _ kw_8) (fun _ h9 => h9) rfl d_Rb_remove_72 ?_
          refine va_alen (v := nI 20) hx hb hK.1 (pl_o hP hrA) 0 3 rfl rfl rfl d_Rb_remove_75 ?_
          refine lv_icmp_ge (tgt := 117) hx hb d_Rb_remove_76 (by decide) (fun _ => ?_) (fun c9 => absurd (nI_le (by omega) (by omega)) c9)
          refine lv_aload_n hx hb d_Rb_remove_117 rfl (lv_at hl 0 rfl) ?_
          refine va_get (D := G.1) (ci := 3) (v := .int (nI (n - 1))) (C := R_Rb) (T := T_Rb) (N := 2) hx hb hA in_Rb hown hK.1 (pl_o hP hrb) 0 rfl rfl 1 (by decide) (hA _ kw_59) (fun _ h9 => h9) rfl d_Rb_remove_118 ?_
          exact W.iret (v := nI (n - 1)) hx hb hr (fun t9 h9t h9W => ⟨⟨_, (L, fv), rfl, ⟨rfl, rfl, hkp, by rw [show j = 20 by omega] at hRv; exact hRv⟩, by rw [h9t]; exact hP, hD⟩, hS.F h9t⟩) hS.2.2 d_Rb_remove_121
        | succ kk ih2 =>
          intro j H locs fv ls hik2 hRv hkp hP hD hS hl
          have hrb : Lk L fv rb (.inr (3, [.ref rA, .int (nI (n - 1))])) := hRv.2.1
          have hrA : Lk L fv rA (.inl (G.2 3, 20, .inr (.inr (.inr (.inr (upto (n - 1) (delA rad pl))))))) := hRv.2.2.1
          refine lv_iload_n hx hb d_Rb_remove_70 rfl (lv_at hl 2 rfl) ?_
          refine lv_aload_n hx hb d_Rb_remove_71 rfl (lv_at hl 0 rfl) ?_
          refine va_get (D := G.1) (ci := 3) (v := .ref rA) (C := R_Rb) (T := T_Rb) (N := 2) hx hb hA in_Rb hown hK.1 (pl_o hP hrb) 0 rfl rfl 0 (by decide) (hA _ kw_8) (fun _ h9 => h9) rfl d_Rb_remove_72 ?_
          refine va_alen (v := nI 20) hx hb hK.1 (pl_o hP hrA) 0 3 rfl rfl rfl d_Rb_remove_75 ?_
          refine lv_icmp_ge (tgt := 117) hx hb d_Rb_remove_76 (by decide) (fun c9 => absurd c9 (nI_ge (by omega) (by omega))) (fun _ => ?_)
          refine lv_aload_n hx hb d_Rb_remove_79 rfl (lv_at hl 0 rfl) ?_
          refine lv_iload_n hx hb d_Rb_remove_80 rfl (lv_at hl 2 rfl) ?_
          refine va_csq (va_Run.run (va_runV (As := [.int (nI j)]) (rest := []) ⟨hx, hb, hml, hown, hA⟩ (c_Rb_at l G L fv hRv.2.1 hRv.2.2.1 (nI j)) ⟨callB_of 1 hA (gAW kw_47) rfl rfl rfl (hA _ kw_48) (hA _ kw_49) (by decide +kernel) ⟨Nat.le_of_ble_eq_true rfl, Nat.le_of_ble_eq_true rfl⟩, (hA _ kw_50), (hA _ kw_51)⟩ (pw_preV (ci := 3) hP hK hrb rfl) rfl rfl hl.1 rfl (lv_room (Nat.le_of_ble_eq_true rfl)) d_Rb_remove_81 ⟨Nat.zero_le _, Nat.zero_le _⟩)) (fun r_5 e_6 => ?_)
          subst e_6
          by_cases hj : j < n - 1
          · refine xv_R (a := delA rad pl j) (oAt_t (by decide) (by omega) hj) ?_
            have hru : Lk L fv (delA rad pl j) (.inr (2, [.int (nI (delA rk pl j)), .int (bI (delA dn pl j)), .ref (ad (delA rc pl j)), .int (nI (decK no j (delA nu pl) j))])) := (hRv.2.2.2 j hj).2.2
            have hnu20 := (hRv.2.2.2 j hj).2.1
            refine lv_astore (lv' := [(4, .ref (delA rad pl j)), (0, .ref rb), (2, .int (nI no)), (3, .int (nI j))]) hx hb d_Rb_remove_84 hl (by decide) rfl (fun ls hl => ?_)
            refine lv_aload hx hb d_Rb_remove_86 (lv_at hl 0 rfl) ?_
            refine lv_ifnull hx hb d_Rb_remove_88 ?_
            refine lv_aload hx hb d_Rb_remove_91 (lv_at hl 0 rfl) ?_
            refine va_getN (D := G.1) (ci := 2) (v := .int (nI (decK no j (delA nu pl) j))) (C := R_Ru) (T := T_Ru) (N := 4) hx hb hA in_Ru hown hK.1 (pl_o hP hru) 0 rfl rfl 3 (by decide) (va_Nw.use rfl (hK.2.1 _ kz_11)) (fun _ h9 => h9) rfl d_Rb_remove_93 ?_
            refine lv_iload_n hx hb d_Rb_remove_96 rfl (lv_at hl 2 rfl) ?_
            by_cases hgt : no < decK no j (delA nu pl) j
            · refine lv_icmp_le (tgt := 111) hx hb d_Rb_remove_97 (by decide) (fun c9 => absurd c9 (fun z => absurd ((nI_leI (by omega) (by omega)).mp z) (by omega))) (fun _ => ?_)
              refine lv_aload hx hb d_Rb_remove_100 (lv_at hl 0 rfl) ?_
              refine lv_dup hx hb d_Rb_remove_102 rfl ?_
              refine va_getN (D := G.1) (ci := 2) (v := .int (nI (decK no j (delA nu pl) j))) (C := R_Ru) (T := T_Ru) (N := 4) hx hb hA in_Ru hown hK.1 (pl_o hP hru) 0 rfl rfl 3 (by decide) (va_Nw.use rfl (hK.2.1 _ kz_11)) (fun _ h9 => h9) rfl d_Rb_remove_103 ?_
              refine lv_iconst (v := nI 1) hx hb d_Rb_remove_106 (by decide) ?_
              refine lv_isub hx hb d_Rb_remove_107 ?_
              refine xv_I (y := nI (dec1 no (decK no j (delA nu pl) j))) ((pk_sub (by omega)).trans (congrArg nI (if_pos hgt).symm)) ?_
              refine xw_putN (D := G.1) (ci := 2) (v := .int (nI (dec1 no (decK no j (delA nu pl) j)))) (ty := .int) (C := R_Ru) (T := T_Ru) (N := 4) (fs' := [.int (nI (delA rk pl j)), .int (bI (delA dn pl j)), .ref (ad (delA rc pl j)), .int (nI (dec1 no (decK no j (delA nu pl) j)))]) hx hb hA in_Ru ty_Ru tyok_Ru nm_Ru hown hK.1 hP hD hS hru rfl 3 (by decide) (va_Nw.use rfl (hK.2.1 _ kz_11)) (fun _ h9 => h9) rfl (by decide +kernel) rfl rfl (Nat.le_of_ble_eq_true rfl) d_Rb_remove_108 rfl (fun H locs hP hD hS => ?_)
              have n_7 : rb ≠ (delA rad pl j) := Lk.neOO hrb hru (by decide)
              have n_8 : rA ≠ (delA rad pl j) := Ne.symm (Lk.neOA hru hrA)
              obtain ⟨f_3, ef_3⟩ : ∃ z : Nat → va_E, z = va_up fv (delA rad pl j) (.inr (2, [.int (nI (delA rk pl j)), .int (bI (delA dn pl j)), .ref (ad (delA rc pl j)), .int (nI (dec1 no (decK no j (delA nu pl) j)))])) := ⟨_, rfl⟩
              rw [← ef_3] at hP hD
              have hrb : Lk L f_3 rb (.inr (3, [.ref rA, .int (nI (n - 1))])) := by rw [ef_3]; exact Lk.up hrb n_7
              have hrA : Lk L f_3 rA (.inl (G.2 3, 20, .inr (.inr (.inr (.inr (upto (n - 1) (delA rad pl))))))) := by rw [ef_3]; exact Lk.up hrA n_8
              have hru : Lk L f_3 (delA rad pl j) (.inr (2, [.int (nI (delA rk pl j)), .int (bI (delA dn pl j)), .ref (ad (delA rc pl j)), .int (nI (dec1 no (decK no j (delA nu pl) j)))])) := by rw [ef_3]; exact Lk.set hru
              have hkp : Kp (fun a => a = rb ∨ a = rA ∨ ∃ q, q < n ∧ a = rad q) L f (L, f_3) := by rw [ef_3]; exact hkp.up (Or.inr (Or.inr (delA_mem hj hp_)))
              refine lv_iinc (v := nI (j + 1)) (lv' := [(3, .int (nI (j + 1))), (4, .ref (delA rad pl j)), (0, .ref rb), (2, .int (nI no))]) hx hb d_Rb_remove_111 hl (k := 3) rfl (nI_1 j) (by decide) rfl (fun ls hl => ?_)
              refine lv_goto (tgt := 70) hx hb d_Rb_remove_114 (by decide) ?_
              exact ih2 (j + 1) H locs _ ls (by omega) (by rw [ef_3, ← decK_s, ← decK_at (x := no) (nu := delA nu pl)]; exact RuB0_setnu hRv (inj_del hI hp_) hj (by unfold dec1; split <;> omega)) hkp hP hD hS (lv_sub hl [2, 3, 0] rfl)
            · refine lv_icmp_le (tgt := 111) hx hb d_Rb_remove_97 (by decide) (fun _ => ?_) (fun c9 => absurd (nI_le (by omega) (by omega)) c9)
              refine lv_iinc (v := nI (j + 1)) (lv' := [(3, .int (nI (j + 1))), (4, .ref (delA rad pl j)), (0, .ref rb), (2, .int (nI no))]) hx hb d_Rb_remove_111 hl (k := 3) rfl (nI_1 j) (by decide) rfl (fun ls hl => ?_)
              refine lv_goto (tgt := 70) hx hb d_Rb_remove_114 (by decide) ?_
              exact ih2 (j + 1) H locs _ ls (by omega) (by rw [← decK_same (by rw [decK_at] at hgt; exact hgt)]; exact hRv) hkp hP hD hS (lv_sub hl [2, 3, 0] rfl)
          · refine xv_N (oAt_f (by decide) (by omega) (by omega)) ?_
            refine lv_astoreN (lv' := [(4, .null), (0, .ref rb), (2, .int (nI no)), (3, .int (nI j))]) hx hb d_Rb_remove_84 hl (by decide) rfl (fun ls hl => ?_)
            refine lv_aloadN hx hb d_Rb_remove_86 (lv_at hl 0 rfl) ?_
            refine lv_ifnullN (tgt := 111) hx hb d_Rb_remove_88 (by decide) ?_
            refine lv_iinc (v := nI (j + 1)) (lv' := [(3, .int (nI (j + 1))), (4, .null), (0, .ref rb), (2, .int (nI no))]) hx hb d_Rb_remove_111 hl (k := 3) rfl (nI_1 j) (by decide) rfl (fun ls hl => ?_)
            refine lv_goto (tgt := 70) hx hb d_Rb_remove_114 (by decide) ?_
            exact ih2 (j + 1) H locs _ ls (by omega) (RuB0_nuc hRv (fun q hq => by unfold decK; rw [if_pos (show q < j by omega), if_pos (show q < j + 1 by omega)])) hkp hP hD hS (lv_sub hl [2, 3, 0] rfl)
      rw [decK_0 no (delA nu pl)] at hR1
      exact loop2 20 0 H locs f_2 ls (by omega) hR1 hkp hP hD hS (lv_sub hl [1, 2, 0] rfl)
    | succ kk ih =>
      intro j H locs ls hik hpj hP hD hS hl
      have hrb : Lk L (va_up f rA (.inl (G.2 3, 20, .inr (.inr (.inr (.inr (shD pl j (upto n rad)))))))) rb (.inr (3, [.ref rA, .int (nI n)])) := Lk.up hrb (Lk.neOA hrb hrA)
      have hrA_ : Lk L (va_up f rA (.inl (G.2 3, 20, .inr (.inr (.inr (.inr (shD pl j (upto n rad)))))))) rA (.inl (G.2 3, 20, .inr (.inr (.inr (.inr (shD pl j (upto n rad))))))) := Lk.set hrA
      refine lv_iload_n hx hb d_Rb_remove_14 rfl (lv_at hl 2 rfl) ?_
      refine lv_aload_n hx hb d_Rb_remove_15 rfl (lv_at hl 0 rfl) ?_
      refine va_get (D := G.1) (ci := 3) (v := .ref rA) (C := R_Rb) (T := T_Rb) (N := 2) hx hb hA in_Rb hown hK.1 (pl_o hP hrb) 0 rfl rfl 0 (by decide) (hA _ kw_8) (fun _ h9 => h9) rfl d_Rb_remove_16 ?_
      refine va_alen (v := nI 20) hx hb hK.1 (pl_o hP hrA_) 0 3 rfl rfl rfl d_Rb_remove_19 ?_
      refine lv_iconst (v := nI 1) hx hb d_Rb_remove_20 (by decide) ?_
      refine lv_isub hx hb d_Rb_remove_21 ?_
      refine xv_I (y := nI 19) (by decide) ?_
      refine lv_icmp_ge (tgt := 45) hx hb d_Rb_remove_22 (by decide) (fun c9 => absurd c9 (nI_ge (by omega) (by omega))) (fun _ => ?_)
      refine lv_aload_n hx hb d_Rb_remove_25 rfl (lv_at hl 0 rfl) ?_
      refine va_get (D := G.1) (ci := 3) (v := .ref rA) (C := R_Rb) (T := T_Rb) (N := 2) hx hb hA in_Rb hown hK.1 (pl_o hP hrb) 0 rfl rfl 0 (by decide) (hA _ kw_8) (fun _ h9 => h9) rfl d_Rb_remove_26 ?_
      refine lv_iload_n hx hb d_Rb_remove_29 rfl (lv_at hl 2 rfl) ?_
      refine lv_aload_n hx hb d_Rb_remove_30 rfl (lv_at hl 0 rfl) ?_
      refine va_get (D := G.1) (ci := 3) (v := .ref rA) (C := R_Rb) (T := T_Rb) (N := 2) hx hb hA in_Rb hown hK.1 (pl_o hP hrb) 0 rfl rfl 0 (by decide) (hA _ kw_8) (fun _ h9 => h9) rfl d_Rb_remove_31 ?_
      refine lv_iload_n hx hb d_Rb_remove_34 rfl (lv_at hl 2 rfl) ?_
      refine lv_iconst (v := nI 1) hx hb d_Rb_remove_35 (by decide) ?_
      refine lv_iadd hx hb d_Rb_remove_36 ?_
      refine xv_I (y := nI (j + 1)) (nI_1 j) ?_
      refine xl_aldq hx hb hK.1 (pl_o hP hrA_) 0 3 rfl rfl (i := (j + 1)) (by omega) (by decide) d_Rb_remove_37 ?_
      refine xv_Q (y := upto n rad (j + 1)) (shD_at (by omega) _) ?_
      by_cases hin : j + 1 < n
      · refine xv_R (a := rad (j + 1)) (upto_t hin) ?_
        have hrq : Lk L (va_up f rA (.inl (G.2 3, 20, .inr (.inr (.inr (.inr (shD pl j (upto n rad)))))))) (rad (j + 1)) (.inr (2, [.int (nI (rk (j + 1))), .int (bI (dn (j + 1))), .ref (ad (rc (j + 1))), .int (nI (nu (j + 1)))])) := Lk.up (hR.2.2.2 _ hin).2.2 (Lk.neOA (hR.2.2.2 _ hin).2.2 hrA)
        refine xw_astq hx hb hK.1 hP hD hS 3 2 hrA_ rfl hrq rfl (i := j) (by omega) (by decide) d_Rb_remove_38 (fun H locs hP hD hS => ?_)
        rw [bx_uu, ← upto_t (ad := rad) hin, shD_s hpj] at hP hD
        refine lv_iinc (v := nI (j + 1)) (lv' := [(3, .int (nI (j + 1))), (0, .ref rb), (2, .int (nI no))]) hx hb d_Rb_remove_39 hl (k := 2) rfl (nI_1 j) (by decide) rfl (fun ls hl => ?_)
        refine lv_goto (tgt := 14) hx hb d_Rb_remove_42 (by decide) ?_
        exact ih (j + 1) H locs ls (by omega) (by omega) hP hD hS (lv_sub hl [1, 2, 0] rfl)
      · refine xv_N (upto_f (by omega)) ?_
        refine xw_astqN (C := "RightDesk$Rule") hx hb hK.1 hP hD hS 3 hrA_ rfl (i := j) (by omega) (by decide) d_Rb_remove_38 (fun H locs hP hD hS => ?_)
        rw [bx_uu, ← upto_f (ad := rad) (show n ≤ j + 1 by omega), shD_s hpj] at hP hD
        refine lv_iinc (v := nI (j + 1)) (lv' := [(3, .int (nI (j + 1))), (0, .ref rb), (2, .int (nI no))]) hx hb d_Rb_remove_39 hl (k := 2) rfl (nI_1 j) (by decide) rfl (fun ls hl => ?_)
        refine lv_goto (tgt := 14) hx hb d_Rb_remove_42 (by decide) ?_
        exact ih (j + 1) H locs ls (by omega) (by omega) hP hD hS (lv_sub hl [1, 2, 0] rfl)
  have e0 : f = (va_up f rA (.inl (G.2 3, 20, .inr (.inr (.inr (.inr (shD pl pl (upto n rad)))))))) := va_up_id (by rw [hrA.2, ← shD_0])
  rw [e0] at hP hD
  exact loop (19 - pl) pl s.heap [] ls (by omega) (Nat.le_refl _) hP hD hS (lv_sub hl [1, 3, 0] rfl)
end
section
set_option maxHeartbeats 4000000 in
set_option maxRecDepth 100000 in
/-- member -/
theorem c_De_member (l : Launch) (G : GG) (L : List Nat) (f : Nat → va_E) (sz : Nat) (hN : L.Nodup) {x0 cb rb : Nat} (hx0 : Lk L f x0 (.inr (4, [.ref cb, .ref rb]))) {mA gA n : Nat} {ad wa kd : Nat → Nat} {ka kb kc : Nat → Int32} {wd : Nat → Nat → Int64} {mm : Nat → Bool} (hB : CoB G L f cb mA gA n ad wa kd ka kb kc wd mm) {ca cbb ccc : Nat → Nat} (hO : OkN n kd ka kb kc ca cbb ccc) (hI : inj n wa) (hW : OkW n kd ca cbb ccc wd mm) (x y : Int32) (b : Bool) : Met l y_De_member (.code y_De_member b_De_member 4 (some .int) :: AW) (RW 7 0 0) (va_Pc [.ref x0, .int x, .int y, .int (bI b)] (PZ G L f sz)) (va_Qi (fun r z => ((blw x (nI 8) = false ∨ blw y (nI 8) = false) ∧ r = -1 ∧ z = (L, f)) ∨ ∃ u v, u < 8 ∧ v < 8 ∧ x = nI u ∧ y = nI v ∧ ((mm (u * 8 + v) = b ∧ r = nI 0 ∧ z = (L, f)) ∨ (¬ mm (u * 8 + v) = b ∧ r = nI 1 ∧ z.1 = L ∧ ∃ wv, CoB G L z.2 cb mA gA n ad wa kd ka kb kc wv (va_up mm (u * 8 + v) b) ∧ OkW n kd ca cbb ccc wv (va_up mm (u * 8 + v) b) ∧ Kp (fun x => x = gA ∨ ∃ i, i < n ∧ x = wa i) L f z))) (BZ G (Am L sz)) (Am L sz)) 0 0 (Am L sz) := by
  refine Met.ofW (cc := b_De_member) (maxL := 4) (ret := (some .int)) (by decide) rfl ?_
  intro p e s m args below meth c s₁ B hml hv
  obtain ⟨rfl, hsz, hP, hK⟩ := hv
  have hx := B.exec
  have hb := B.bytes
  have hr := B.returns
  have hA : ∀ w ∈ AW, w.before _ s = true := fun w h => atoms_spec (ws := (.code y_De_member b_De_member 4 (some .int) :: AW)) B.pre w (List.mem_cons_of_mem _ h)
  have hown : s.vm.findClass R_De = some m.cls := findClass_of_methodNamed B.named
  have hlocks := B.notSynchronized
  subst hsz
  have hD : va_D (Am L s.heap.size) (va_pl L f) := pl_D hN (fun _ h => Or.inl h)
  have hA0 : ∀ q, s.heap.size ≤ q → Am L s.heap.size q := fun q h => Or.inr h
  generalize Am L s.heap.size = A at hD hA0 ⊢
  have hS : va_S A s.heap s.heap [] := va_S.rf
  have hkp : Kp (fun x => x = gA ∨ ∃ i, i < n ∧ x = wa i) L f (L, f) := Kp.rf
  have hl := lv_entry ([.ref x0, .int x, .int y, .int (bI b)]) (n := 4) (Nat.le_of_ble_eq_true rfl)
  rw [lg_entry_eq]
  generalize (lg_sl ([.ref x0, .int x, .int y, .int (bI b)]) ++ List.replicate (4 - (lg_sl ([.ref x0, .int x, .int y, .int (bI b)])).length) Slot.unset).toArray = ls at hl ⊢
  have hl : lv_has ls 4 [(0, .ref x0), (1, .int x), (2, .int y), (3, .int (bI b))] := hl
  have hcb : Lk L f cb (.inr (1, [.ref mA, .ref gA, .int (nI n)])) := hB.2.1
  refine lv_iload_n hx hb d_De_member_0 rfl (lv_at hl 1 rfl) ?_
  refine lv_bipush (v := nI 8) hx hb d_De_member_1 (by decide) ?_
  refine vp_callSi (va_Run.run (va_runS (As := [.int x, .int (nI 8)]) (rest := []) ⟨hx, hb, hml, hown, hA⟩ (c_isBelow l G L f x (nI 8)) ⟨callB_of 2 hA (gAW kw_4) rfl rfl rfl (hA _ kw_5) (hA _ kw_96) (by decide +kernel) ⟨Nat.le_of_ble_eq_true rfl, Nat.le_of_ble_eq_true rfl⟩, (hA _ kw_6)⟩ (pw_preS hP hK) rfl rfl hl.1 rfl (lv_room (Nat.le_of_ble_eq_true rfl)) d_De_member_3 ⟨Nat.zero_le _, Nat.zero_le _⟩)) (fun r_1 e_2 => ?_)
  subst e_2
  rcases bcase (blw x (nI 8)) with hb_0 | hb_0
  · refine lv_if_eq (tgt := 18) hx hb d_De_member_6 (by decide) (fun _ => ?_) (fun c9 => absurd (by rw [hb_0]; rfl) c9)
    refine lv_iconst (v := (-1)) hx hb d_De_member_18 (by decide) ?_
    exact W.iret (v := (-1)) hx hb hr (fun t9 h9t h9W => ⟨⟨_, (L, f), rfl, Or.inl ⟨Or.inl hb_0, rfl, rfl⟩, by rw [h9t]; exact hP, hD⟩, hS.F h9t⟩) hS.2.2 d_De_member_19
  · refine lv_if_eq (tgt := 18) hx hb d_De_member_6 (by decide) (fun c9 => absurd c9 (by rw [hb_0]; decide)) (fun _ => ?_)
    obtain ⟨u, hu, rfl⟩ := blw_of (by decide) hb_0
    refine lv_iload_n hx hb d_De_member_9 rfl (lv_at hl 2 rfl) ?_
    refine lv_bipush (v := nI 8) hx hb d_De_member_10 (by decide) ?_
    refine vp_callSi (va_Run.run (va_runS (As := [.int y, .int (nI 8)]) (rest := []) ⟨hx, hb, hml, hown, hA⟩ (c_isBelow l G L f y (nI 8)) ⟨callB_of 2 hA (gAW kw_4) rfl rfl rfl (hA _ kw_5) (hA _ kw_96) (by decide +kernel) ⟨Nat.le_of_ble_eq_true rfl, Nat.le_of_ble_eq_true rfl⟩, (hA _ kw_6)⟩ (pw_preS hP hK) rfl rfl hl.1 rfl (lv_room (Nat.le_of_ble_eq_true rfl)) d_De_member_12 ⟨Nat.zero_le _, Nat.zero_le _⟩)) (fun r_3 e_4 => ?_)
    subst e_4
    rcases bcase (blw y (nI 8)) with hb_1 | hb_1
    · refine lv_if_ne (tgt := 20) hx hb d_De_member_15 (by decide) (fun c9 => absurd (by rw [hb_1]; rfl) c9) (fun _ => ?_)
      refine lv_iconst (v := (-1)) hx hb d_De_member_18 (by decide) ?_
      exact W.iret (v := (-1)) hx hb hr (fun t9 h9t h9W => ⟨⟨_, (L, f), rfl, Or.inl ⟨Or.inr hb_1, rfl, rfl⟩, by rw [h9t]; exact hP, hD⟩, hS.F h9t⟩) hS.2.2 d_De_member_19
    · refine lv_if_ne (tgt := 20) hx hb d_De_member_15 (by decide) (fun _ => ?_) (fun c9 => absurd c9 (by rw [hb_1]; decide))
      obtain ⟨v, hv, rfl⟩ := blw_of (by decide) hb_1
      refine lv_aload_n hx hb d_De_member_20 rfl (lv_at hl 0 rfl) ?_
      refine va_get (D := G.1) (ci := 4) (v := .ref cb) (C := R_De) (T := T_De) (N := 2) hx hb hA in_De hown hK.1 (pl_o hP hx0) 0 rfl rfl 0 (by decide) (hA _ kw_80) (fun _ h9 => h9) rfl d_De_member_21 ?_
      refine lv_iload_n hx hb d_De_member_24 rfl (lv_at hl 1 rfl) ?_
      refine lv_iload_n hx hb d_De_member_25 rfl (lv_at hl 2 rfl) ?_
      refine lv_iload_n hx hb d_De_member_26 rfl (lv_at hl 3 rfl) ?_
      have hFc := am_free hD hS hA0
      refine va_calli (va_runVN (As := [.int (nI u), .int (nI v), .int (bI b)]) (rest := []) ⟨hx, hb, hml, hown, hA⟩ (c_Cb_setM l G L f s.heap.size (pl_nd hD) hB hO hI hW u v b hu hv) ⟨va_cnB 3 hA (gAW kw_155) rfl rfl rfl (hK.2.1 _ kz_32) (hA _ kw_19) (by decide +kernel) ⟨Nat.le_of_ble_eq_true rfl, Nat.le_of_ble_eq_true rfl⟩, (hA _ kw_156), (hA _ kw_157)⟩ (pz_preV (ci := 1) hP hK hcb rfl) rfl rfl hl.1 rfl (lv_room (Nat.le_of_ble_eq_true rfl)) d_De_member_27 ⟨Nat.le_of_ble_eq_true rfl, Nat.le_of_ble_eq_true rfl⟩) hS (fun q _ h => hFc q h) hFc (fun r_5 u9 t9 H1 locs ht9 hvm hw hWB hz1 hk1 hS => ?_)
      obtain ⟨L_1, f_1⟩ := u9
      obtain ⟨hP, hD1⟩ := hWB
      rw [ht9] at hP
      have hD := va_Dw hD1 hFc
      clear hD1 hk1 hz1 hFc ht9 hvm
      generalize H1 = H at hP hS ⊢
      dsimp only at hP hD
      rcases hw with ⟨hs, hrr, hz⟩ | ⟨hs, hrr, hz1, wv, hBv, hOk, hk1⟩
      · try dsimp only at hz
        cases hz
        subst hrr
        refine lv_if_eq (tgt := 37) hx hb d_De_member_30 (by decide) (fun _ => ?_) (fun c9 => absurd rfl c9)
        refine lv_iconst (v := nI 0) hx hb d_De_member_37 (by decide) ?_
        exact W.iret (v := nI 0) hx hb hr (fun t9 h9t h9W => ⟨⟨_, (L, f), rfl, Or.inr ⟨u, v, hu, hv, rfl, rfl, Or.inl ⟨hs, rfl, rfl⟩⟩, by rw [h9t]; exact hP, hD⟩, hS.F h9t⟩) hS.2.2 d_De_member_38
      · try dsimp only at hz1 hBv hk1
        subst hrr
        refine lv_if_eq (tgt := 37) hx hb d_De_member_30 (by decide) (fun c9 => absurd c9 (by decide)) (fun _ => ?_)
        refine lv_iconst (v := nI 1) hx hb d_De_member_33 (by decide) ?_
        refine lv_goto (tgt := 38) hx hb d_De_member_34 (by decide) ?_
        exact W.iret (v := nI 1) hx hb hr (fun t9 h9t h9W => ⟨⟨_, (L_1, f_1), rfl, Or.inr ⟨u, v, hu, hv, rfl, rfl, Or.inr ⟨hs, rfl, hz1, wv, hBv, hOk, hk1⟩⟩, by rw [h9t]; exact hP, hD⟩, hS.F h9t⟩) hS.2.2 d_De_member_38

set_option maxHeartbeats 4000000 in
set_option maxRecDepth 100000 in
/-- condition -/
theorem c_De_condition (l : Launch) (G : GG) (L : List Nat) (f : Nat → va_E) (sz : Nat) (hN : L.Nodup) {x0 cb rb : Nat} (hx0 : Lk L f x0 (.inr (4, [.ref cb, .ref rb]))) {mA gA n : Nat} {ad wa kd : Nat → Nat} {ka kb kc : Nat → Int32} {wd : Nat → Nat → Int64} {mm : Nat → Bool} (hB : CoB G L f cb mA gA n ad wa kd ka kb kc wd mm) (x1 x2 x3 x4 : Int32) : Met l y_De_condition (.code y_De_condition b_De_condition 5 (some .int) :: AW) (RW 6 2 101) (va_Pc [.ref x0, .int x1, .int x2, .int x3, .int x4] (PZ G L f sz)) (va_Qi (fun r u => (cOK n x1 x2 x3 x4 = false ∧ r = -1 ∧ u = (L, f)) ∨ ∃ k a b c_, x1 = nI k ∧ okC n k x2 x3 x4 a b c_ ∧ ((n = 60 ∧ r = -3 ∧ u = (L, f)) ∨ (n < 60 ∧ r = nI n ∧ ∃ q zw g, q ∉ L ∧ zw ∉ L ∧ q ≠ zw ∧ Kp (fun a => a = cb ∨ a = mA) L f u ∧ (∀ j, j < 96 → g j = wrd mm wd k a b c_ j) ∧ CoB G u.1 u.2 cb mA gA (n + 1) (va_up ad n q) (va_up wa n zw) (va_up kd n k) (va_up ka n x2) (va_up kb n x3) (va_up kc n x4) (va_up wd n g) mm))) (BZ G (Am L sz)) (Am L sz)) 2 101 (Am L sz) := by
  refine Met.ofW (cc := b_De_condition) (maxL := 5) (ret := (some .int)) (by decide) rfl ?_
  intro p e s m args below meth c s₁ B hml hv
  obtain ⟨rfl, hsz, hP, hK⟩ := hv
  have hx := B.exec
  have hb := B.bytes
  have hr := B.returns
  have hA : ∀ w ∈ AW, w.before _ s = true := fun w h => atoms_spec (ws := (.code y_De_condition b_De_condition 5 (some .int) :: AW)) B.pre w (List.mem_cons_of_mem _ h)
  have hown : s.vm.findClass R_De = some m.cls := findClass_of_methodNamed B.named
  have hlocks := B.notSynchronized
  subst hsz
  have hD : va_D (Am L s.heap.size) (va_pl L f) := pl_D hN (fun _ h => Or.inl h)
  have hA0 : ∀ q, s.heap.size ≤ q → Am L s.heap.size q := fun q h => Or.inr h
  generalize Am L s.heap.size = A at hD hA0 ⊢
  have hS : va_S A s.heap s.heap [] := va_S.rf
  have hkp : Kp (fun a => a = cb ∨ a = mA) L f (L, f) := Kp.rf
  have hl := lv_entry ([.ref x0, .int x1, .int x2, .int x3, .int x4]) (n := 5) (Nat.le_of_ble_eq_true rfl)
  rw [lg_entry_eq]
  generalize (lg_sl ([.ref x0, .int x1, .int x2, .int x3, .int x4]) ++ List.replicate (5 - (lg_sl ([.ref x0, .int x1, .int x2, .int x3, .int x4])).length) Slot.unset).toArray = ls at hl ⊢
  have hl : lv_has ls 5 [(0, .ref x0), (1, .int x1), (2, .int x2), (3, .int x3), (4, .int x4)] := hl
  have hcb : Lk L f cb (.inr (1, [.ref mA, .ref gA, .int (nI n)])) := hB.2.1
  refine lv_aload_n hx hb d_De_condition_0 rfl (lv_at hl 0 rfl) ?_
  refine va_get (D := G.1) (ci := 4) (v := .ref cb) (C := R_De) (T := T_De) (N := 2) hx hb hA in_De hown hK.1 (pl_o hP hx0) 0 rfl rfl 0 (by decide) (hA _ kw_80) (fun _ h9 => h9) rfl d_De_condition_1 ?_
  refine lv_iload_n hx hb d_De_condition_4 rfl (lv_at hl 1 rfl) ?_
  refine lv_iload_n hx hb d_De_condition_5 rfl (lv_at hl 2 rfl) ?_
  refine lv_iload_n hx hb d_De_condition_6 rfl (lv_at hl 3 rfl) ?_
  refine lv_iload hx hb d_De_condition_7 (lv_at hl 4 rfl) ?_
  refine vp_callSi (va_Run.run (va_runVN (As := [.int x1, .int x2, .int x3, .int x4]) (rest := []) ⟨hx, hb, hml, hown, hA⟩ (c_Cb_can l G L f hB x1 x2 x3 x4) ⟨va_cnB 4 hA (gAW kw_158) rfl rfl rfl (hK.2.1 _ kz_33) (hA _ kw_19) (by decide +kernel) ⟨Nat.le_of_ble_eq_true rfl, Nat.le_of_ble_eq_true rfl⟩, (hA _ kw_159), (hA _ kw_160)⟩ (pw_preV (ci := 1) hP hK hcb rfl) rfl rfl hl.1 rfl (lv_room (Nat.le_of_ble_eq_true rfl)) d_De_condition_9 ⟨Nat.zero_le _, Nat.zero_le _⟩)) (fun r_1 e_2 => ?_)
  subst e_2
  rcases bcase (cOK n x1 x2 x3 x4) with hb_0 | hb_0
  · refine lv_if_ne (tgt := 17) hx hb d_De_condition_12 (by decide) (fun c9 => absurd (by rw [hb_0]; rfl) c9) (fun _ => ?_)
    refine lv_iconst (v := (-1)) hx hb d_De_condition_15 (by decide) ?_
    refine W.widen (k := 2) (n := 101) (by omega) (by omega) ?_
    exact W.iret (v := (-1)) hx hb hr (fun t9 h9t h9W => ⟨⟨_, (L, f), rfl, Or.inl ⟨hb_0, rfl, rfl⟩, by rw [h9t]; exact hP, hD⟩, hS.F h9t⟩) hS.2.2 d_De_condition_16
  · refine lv_if_ne (tgt := 17) hx hb d_De_condition_12 (by decide) (fun _ => ?_) (fun c9 => absurd c9 (by rw [hb_0]; decide))
    obtain ⟨k, a, b, c_, rfl, ho⟩ := cOK_ok hB.1 hb_0
    refine lv_aload_n hx hb d_De_condition_17 rfl (lv_at hl 0 rfl) ?_
    refine va_get (D := G.1) (ci := 4) (v := .ref cb) (C := R_De) (T := T_De) (N := 2) hx hb hA in_De hown hK.1 (pl_o hP hx0) 0 rfl rfl 0 (by decide) (hA _ kw_80) (fun _ h9 => h9) rfl d_De_condition_18 ?_
    refine lv_iload_n hx hb d_De_condition_21 rfl (lv_at hl 1 rfl) ?_
    refine lv_iload_n hx hb d_De_condition_22 rfl (lv_at hl 2 rfl) ?_
    refine lv_iload_n hx hb d_De_condition_23 rfl (lv_at hl 3 rfl) ?_
    refine lv_iload hx hb d_De_condition_24 (lv_at hl 4 rfl) ?_
    have hFc := am_free hD hS hA0
    refine va_calli (va_runVN (As := [.int (nI k), .int x2, .int x3, .int x4]) (rest := []) ⟨hx, hb, hml, hown, hA⟩ (c_Cb_add l G L f s.heap.size (pl_nd hD) hB ho) ⟨va_cnB 4 hA (gAW kw_161) rfl rfl rfl (hK.2.1 _ kz_34) (hA _ kw_19) (by decide +kernel) ⟨Nat.le_of_ble_eq_true rfl, Nat.le_of_ble_eq_true rfl⟩, (hA _ kw_162), (hA _ kw_163)⟩ (pz_preV (ci := 1) hP hK hcb rfl) rfl rfl hl.1 rfl (lv_room (Nat.le_of_ble_eq_true rfl)) d_De_condition_26 ⟨Nat.le_of_ble_eq_true rfl, Nat.le_of_ble_eq_true rfl⟩) hS (fun q _ h => hFc q h) hFc (fun r_3 u9 t9 H1 locs ht9 hvm hw hWB hz1 hk1 hS => ?_)
    obtain ⟨L_1, f_1⟩ := u9
    obtain ⟨hP, hD1⟩ := hWB
    rw [ht9] at hP
    have hD := va_Dw hD1 hFc
    clear hD1 hk1 hz1 hFc ht9 hvm
    generalize H1 = H at hP hS ⊢
    dsimp only at hP hD
    refine W.widen (k := 2) (n := 101) (by omega) (by omega) ?_
    exact W.iret (v := r_3) hx hb hr (fun t9 h9t h9W => ⟨⟨_, (L_1, f_1), rfl, Or.inr ⟨k, a, b, c_, rfl, ho, hw⟩, by rw [h9t]; exact hP, hD⟩, hS.F h9t⟩) hS.2.2 d_De_condition_29

set_option maxHeartbeats 4000000 in
set_option maxRecDepth 100000 in
/-- rule -/
theorem c_De_rule (l : Launch) (G : GG) (L : List Nat) (f : Nat → va_E) (sz : Nat) (hN : L.Nodup) {x0 cb rb : Nat} (hx0 : Lk L f x0 (.inr (4, [.ref cb, .ref rb]))) {mA gA n : Nat} {ad wa kd : Nat → Nat} {ka kb kc : Nat → Int32} {wd : Nat → Nat → Int64} {mm : Nat → Bool} (hB : CoB G L f cb mA gA n ad wa kd ka kb kc wd mm) {rA rn : Nat} {rad rc rk nu : Nat → Nat} {dn : Nat → Bool} (hR : RuB0 G L f rb rA rn rad rc rk nu dn ad) (hrc : ∀ q, q < rn → rc q < n) (x y : Int32) (b : Bool) : Met l y_De_rule (.code y_De_rule b_De_rule 5 (some .int) :: AW) (RW 4 1 4) (va_Pc [.ref x0, .int x, .int (bI b), .int y] (PZ G L f sz)) (va_Qi (fun r z => ((blw y (nI n) = false ∨ blw x (nI 10) = false) ∧ r = -1 ∧ z = (L, f)) ∨ ∃ u t, u < 10 ∧ t < n ∧ x = nI u ∧ y = nI t ∧ ((rn = 20 ∧ r = -3 ∧ z = (L, f)) ∨ (rn < 20 ∧ r = nI rn ∧ ∃ fr pl, fr ∉ L ∧ fst0 (isPl rn u b rk dn) 20 0 = some pl ∧ pl ≤ rn ∧ Kp (fun a => a = rb ∨ a = rA) L f z ∧ RuB0 G z.1 z.2 rb rA (rn + 1) (insA rad pl fr) (insA rc pl t) (insA rk pl u) (insA nu pl rn) (insA dn pl b) ad))) (BZ G (Am L sz)) (Am L sz)) 1 4 (Am L sz) := by
  refine Met.ofW (cc := b_De_rule) (maxL := 5) (ret := (some .int)) (by decide) rfl ?_
  intro p e s m args below meth c s₁ B hml hv
  obtain ⟨rfl, hsz, hP, hK⟩ := hv
  have hx := B.exec
  have hb := B.bytes
  have hr := B.returns
  have hA : ∀ w ∈ AW, w.before _ s = true := fun w h => atoms_spec (ws := (.code y_De_rule b_De_rule 5 (some .int) :: AW)) B.pre w (List.mem_cons_of_mem _ h)
  have hown : s.vm.findClass R_De = some m.cls := findClass_of_methodNamed B.named
  have hlocks := B.notSynchronized
  subst hsz
  have hD : va_D (Am L s.heap.size) (va_pl L f) := pl_D hN (fun _ h => Or.inl h)
  have hA0 : ∀ q, s.heap.size ≤ q → Am L s.heap.size q := fun q h => Or.inr h
  generalize Am L s.heap.size = A at hD hA0 ⊢
  have hS : va_S A s.heap s.heap [] := va_S.rf
  have hkp : Kp (fun a => a = rb ∨ a = rA) L f (L, f) := Kp.rf
  have hl := lv_entry ([.ref x0, .int x, .int (bI b), .int y]) (n := 5) (Nat.le_of_ble_eq_true rfl)
  rw [lg_entry_eq]
  generalize (lg_sl ([.ref x0, .int x, .int (bI b), .int y]) ++ List.replicate (5 - (lg_sl ([.ref x0, .int x, .int (bI b), .int y])).length) Slot.unset).toArray = ls at hl ⊢
  have hl : lv_has ls 5 [(0, .ref x0), (1, .int x), (2, .int (bI b)), (3, .int y)] := hl
  have hcb : Lk L f cb (.inr (1, [.ref mA, .ref gA, .int (nI n)])) := hB.2.1
  have hrb : Lk L f rb (.inr (3, [.ref rA, .int (nI rn)])) := hR.2.1
  have hcn := hB.1
  rcases at60 (ad := ad) hcn y with ⟨t, ht, rfl⟩ | ⟨hnb, hno⟩
  · refine lv_aload_n hx hb d_De_rule_0 rfl (lv_at hl 0 rfl) ?_
    refine va_get (D := G.1) (ci := 4) (v := .ref cb) (C := R_De) (T := T_De) (N := 2) hx hb hA in_De hown hK.1 (pl_o hP hx0) 0 rfl rfl 0 (by decide) (hA _ kw_80) (fun _ h9 => h9) rfl d_De_rule_1 ?_
    refine lv_iload_n hx hb d_De_rule_4 rfl (lv_at hl 3 rfl) ?_
    refine va_csq (va_Run.run (va_runVN (As := [.int (nI t)]) (rest := []) ⟨hx, hb, hml, hown, hA⟩ (c_Cb_at l G L f hB.2.1 hB.2.2.1 (nI t)) ⟨va_cnB 1 hA (gAW kw_18) rfl rfl rfl (hK.2.1 _ kz_18) (hA _ kw_19) (by decide +kernel) ⟨Nat.le_of_ble_eq_true rfl, Nat.le_of_ble_eq_true rfl⟩, (hA _ kw_21), (hA _ kw_22)⟩ (pw_preV (ci := 1) hP hK hcb rfl) rfl rfl hl.1 rfl (lv_room (Nat.le_of_ble_eq_true rfl)) d_De_rule_5 ⟨Nat.zero_le _, Nat.zero_le _⟩)) (fun r_1 e_2 => ?_)
    subst e_2
    refine xv_R (a := ad t) (oAt_t (by decide) hcn ht) ?_
    refine lv_astore (lv' := [(4, .ref (ad t)), (0, .ref x0), (1, .int x), (2, .int (bI b)), (3, .int (nI t))]) hx hb d_De_rule_8 hl (by decide) rfl (fun ls hl => ?_)
    refine lv_aload hx hb d_De_rule_10 (lv_at hl 0 rfl) ?_
    refine lv_ifnull hx hb d_De_rule_12 ?_
    refine lv_iload_n hx hb d_De_rule_15 rfl (lv_at hl 2 rfl) ?_
    refine lv_bipush (v := nI 10) hx hb d_De_rule_16 (by decide) ?_
    refine vp_callSi (va_Run.run (va_runS (As := [.int x, .int (nI 10)]) (rest := []) ⟨hx, hb, hml, hown, hA⟩ (c_isBelow l G L f x (nI 10)) ⟨callB_of 2 hA (gAW kw_4) rfl rfl rfl (hA _ kw_5) (hA _ kw_96) (by decide +kernel) ⟨Nat.le_of_ble_eq_true rfl, Nat.le_of_ble_eq_true rfl⟩, (hA _ kw_6)⟩ (pw_preS hP hK) rfl rfl hl.1 rfl (lv_room (Nat.le_of_ble_eq_true rfl)) d_De_rule_18 ⟨Nat.zero_le _, Nat.zero_le _⟩)) (fun r_3 e_4 => ?_)
    subst e_4
    rcases bcase (blw x (nI 10)) with hb_0 | hb_0
    · refine lv_if_ne (tgt := 26) hx hb d_De_rule_21 (by decide) (fun c9 => absurd (by rw [hb_0]; rfl) c9) (fun _ => ?_)
      refine lv_iconst (v := (-1)) hx hb d_De_rule_24 (by decide) ?_
      refine W.widen (k := 1) (n := 4) (by omega) (by omega) ?_
      exact W.iret (v := (-1)) hx hb hr (fun t9 h9t h9W => ⟨⟨_, (L, f), rfl, Or.inl ⟨Or.inr hb_0, rfl, rfl⟩, by rw [h9t]; exact hP, hD⟩, hS.F h9t⟩) hS.2.2 d_De_rule_25
    · refine lv_if_ne (tgt := 26) hx hb d_De_rule_21 (by decide) (fun _ => ?_) (fun c9 => absurd c9 (by rw [hb_0]; decide))
      obtain ⟨u, hu, rfl⟩ := blw_of (by decide) hb_0
      refine lv_aload_n hx hb d_De_rule_26 rfl (lv_at hl 1 rfl) ?_
      refine va_get (D := G.1) (ci := 4) (v := .ref rb) (C := R_De) (T := T_De) (N := 2) hx hb hA in_De hown hK.1 (pl_o hP hx0) 0 rfl rfl 1 (by decide) (hA _ kw_81) (fun _ h9 => h9) rfl d_De_rule_27 ?_
      refine lv_iload_n hx hb d_De_rule_30 rfl (lv_at hl 2 rfl) ?_
      refine lv_iload_n hx hb d_De_rule_31 rfl (lv_at hl 3 rfl) ?_
      refine lv_aload hx hb d_De_rule_32 (lv_at hl 0 rfl) ?_
      have hFc := am_free hD hS hA0
      refine va_calli (va_runVN (As := [.int (nI u), .int (bI b), .ref (ad t)]) (rest := []) ⟨hx, hb, hml, hown, hA⟩ (c_Rb_add l G L f s.heap.size (pl_nd hD) hB hR hrc u t b hu) ⟨va_cnB 3 hA (gAW kw_164) rfl rfl rfl (hK.2.1 _ kz_35) (hA _ kw_48) (by decide +kernel) ⟨Nat.le_of_ble_eq_true rfl, Nat.le_of_ble_eq_true rfl⟩, (hA _ kw_165), (hA _ kw_166)⟩ (pz_preV (ci := 3) hP hK hrb rfl) rfl rfl hl.1 rfl (lv_room (Nat.le_of_ble_eq_true rfl)) d_De_rule_34 ⟨Nat.le_of_ble_eq_true rfl, Nat.le_of_ble_eq_true rfl⟩) hS (fun q _ h => hFc q h) hFc (fun r_5 u9 t9 H1 locs ht9 hvm hw hWB hz1 hk1 hS => ?_)
      obtain ⟨L_1, f_1⟩ := u9
      obtain ⟨hP, hD1⟩ := hWB
      rw [ht9] at hP
      have hD := va_Dw hD1 hFc
      clear hD1 hk1 hz1 hFc ht9 hvm
      generalize H1 = H at hP hS ⊢
      dsimp only at hP hD
      refine W.widen (k := 1) (n := 4) (by omega) (by omega) ?_
      exact W.iret (v := r_5) hx hb hr (fun t9 h9t h9W => ⟨⟨_, (L_1, f_1), rfl, Or.inr ⟨u, t, hu, ht, rfl, rfl, hw⟩, by rw [h9t]; exact hP, hD⟩, hS.F h9t⟩) hS.2.2 d_De_rule_37
  · refine lv_aload_n hx hb d_De_rule_0 rfl (lv_at hl 0 rfl) ?_
    refine va_get (D := G.1) (ci := 4) (v := .ref cb) (C := R_De) (T := T_De) (N := 2) hx hb hA in_De hown hK.1 (pl_o hP hx0) 0 rfl rfl 0 (by decide) (hA _ kw_80) (fun _ h9 => h9) rfl d_De_rule_1 ?_
    refine lv_iload_n hx hb d_De_rule_4 rfl (lv_at hl 3 rfl) ?_
    refine va_csq (va_Run.run (va_runVN (As := [.int y]) (rest := []) ⟨hx, hb, hml, hown, hA⟩ (c_Cb_at l G L f hB.2.1 hB.2.2.1 y) ⟨va_cnB 1 hA (gAW kw_18) rfl rfl rfl (hK.2.1 _ kz_18) (hA _ kw_19) (by decide +kernel) ⟨Nat.le_of_ble_eq_true rfl, Nat.le_of_ble_eq_true rfl⟩, (hA _ kw_21), (hA _ kw_22)⟩ (pw_preV (ci := 1) hP hK hcb rfl) rfl rfl hl.1 rfl (lv_room (Nat.le_of_ble_eq_true rfl)) d_De_rule_5 ⟨Nat.zero_le _, Nat.zero_le _⟩)) (fun r_6 e_7 => ?_)
    subst e_7
    refine xv_N hno ?_
    refine lv_astoreN (lv' := [(4, .null), (0, .ref x0), (1, .int x), (2, .int (bI b)), (3, .int y)]) hx hb d_De_rule_8 hl (by decide) rfl (fun ls hl => ?_)
    refine lv_aloadN hx hb d_De_rule_10 (lv_at hl 0 rfl) ?_
    refine lv_ifnullN (tgt := 24) hx hb d_De_rule_12 (by decide) ?_
    refine lv_iconst (v := (-1)) hx hb d_De_rule_24 (by decide) ?_
    refine W.widen (k := 1) (n := 4) (by omega) (by omega) ?_
    exact W.iret (v := (-1)) hx hb hr (fun t9 h9t h9W => ⟨⟨_, (L, f), rfl, Or.inl ⟨Or.inl hnb, rfl, rfl⟩, by rw [h9t]; exact hP, hD⟩, hS.F h9t⟩) hS.2.2 d_De_rule_25

set_option maxHeartbeats 4000000 in
set_option maxRecDepth 100000 in
/-- drop -/
theorem c_De_drop (l : Launch) (G : GG) (L : List Nat) (f : Nat → va_E) (sz : Nat) (hN : L.Nodup) {x0 cb rb : Nat} (hx0 : Lk L f x0 (.inr (4, [.ref cb, .ref rb]))) {mA gA n : Nat} {ad wa kd : Nat → Nat} {ka kb kc : Nat → Int32} {wd : Nat → Nat → Int64} {mm : Nat → Bool} (hB : CoB G L f cb mA gA n ad wa kd ka kb kc wd mm) {rA rn : Nat} {rad rc rk nu : Nat → Nat} {dn : Nat → Bool} (hR : RuB0 G L f rb rA rn rad rc rk nu dn ad) (hrc : ∀ q, q < rn → rc q < n) (hI : inj rn rad) (x : Int32) : Met l y_De_drop (.code y_De_drop b_De_drop 3 (some .int) :: AW) (RW 3 0 0) (va_Pc [.ref x0, .int x] (PZ G L f sz)) (va_Qi (fun r z => (fst0 (isNo rn nu x) 20 0 = none ∧ r = -1 ∧ z = (L, f)) ∨ ∃ q, fst0 (isNo rn nu x) 20 0 = some q ∧ q < rn ∧ r = nI (rn - 1) ∧ z.1 = L ∧ Kp (fun a => a = rb ∨ a = rA ∨ ∃ q, q < rn ∧ a = rad q) L f z ∧ RuB0 G L z.2 rb rA (rn - 1) (delA rad q) (delA rc q) (delA rk q) (decK (nu q) 20 (delA nu q)) (delA dn q) ad) (BZ G (Am L sz)) (Am L sz)) 0 0 (Am L sz) := by
  refine Met.ofW (cc := b_De_drop) (maxL := 3) (ret := (some .int)) (by decide) rfl ?_
  intro p e s m args below meth c s₁ B hml hv
  obtain ⟨rfl, hsz, hP, hK⟩ := hv
  have hx := B.exec
  have hb := B.bytes
  have hr := B.returns
  have hA : ∀ w ∈ AW, w.before _ s = true := fun w h => atoms_spec (ws := (.code y_De_drop b_De_drop 3 (some .int) :: AW)) B.pre w (List.mem_cons_of_mem _ h)
  have hown : s.vm.findClass R_De = some m.cls := findClass_of_methodNamed B.named
  have hlocks := B.notSynchronized
  subst hsz
  have hD : va_D (Am L s.heap.size) (va_pl L f) := pl_D hN (fun _ h => Or.inl h)
  have hA0 : ∀ q, s.heap.size ≤ q → Am L s.heap.size q := fun q h => Or.inr h
  generalize Am L s.heap.size = A at hD hA0 ⊢
  have hS : va_S A s.heap s.heap [] := va_S.rf
  have hkp : Kp (fun a => a = rb ∨ a = rA ∨ ∃ q, q < rn ∧ a = rad q) L f (L, f) := Kp.rf
  have hl := lv_entry ([.ref x0, .int x]) (n := 3) (Nat.le_of_ble_eq_true rfl)
  rw [lg_entry_eq]
  generalize (lg_sl ([.ref x0, .int x]) ++ List.replicate (3 - (lg_sl ([.ref x0, .int x])).length) Slot.unset).toArray = ls at hl ⊢
  have hl : lv_has ls 3 [(0, .ref x0), (1, .int x)] := hl
  have hrb : Lk L f rb (.inr (3, [.ref rA, .int (nI rn)])) := hR.2.1
  have hrn := hR.1
  refine lv_aload_n hx hb d_De_drop_0 rfl (lv_at hl 0 rfl) ?_
  refine va_get (D := G.1) (ci := 4) (v := .ref rb) (C := R_De) (T := T_De) (N := 2) hx hb hA in_De hown hK.1 (pl_o hP hx0) 0 rfl rfl 1 (by decide) (hA _ kw_81) (fun _ h9 => h9) rfl d_De_drop_1 ?_
  refine lv_iload_n hx hb d_De_drop_4 rfl (lv_at hl 1 rfl) ?_
  refine vp_callSi (va_Run.run (va_runVN (As := [.int x]) (rest := []) ⟨hx, hb, hml, hown, hA⟩ (c_Rb_placeOf l G L f (RuB_of hB hR hrc) x) ⟨va_cnB 1 hA (gAW kw_90) rfl rfl rfl (hK.2.1 _ kz_20) (hA _ kw_48) (by decide +kernel) ⟨Nat.le_of_ble_eq_true rfl, Nat.le_of_ble_eq_true rfl⟩, (hA _ kw_91), (hA _ kw_92)⟩ (pw_preV (ci := 3) hP hK hrb rfl) rfl rfl hl.1 rfl (lv_room (Nat.le_of_ble_eq_true rfl)) d_De_drop_5 ⟨Nat.zero_le _, Nat.zero_le _⟩)) (fun r_1 e_2 => ?_)
  subst e_2
  rcases ocase (fst0 (isNo rn nu x) 20 0) with hf | ⟨q, hf⟩
  · refine xv_I (y := (-1)) (by rw [hf]; rfl) ?_
    refine lv_istore_n (lv' := [(2, .int (-1)), (0, .ref x0), (1, .int x)]) hx hb d_De_drop_8 rfl hl (by decide) rfl (fun ls hl => ?_)
    refine lv_iload_n hx hb d_De_drop_9 rfl (lv_at hl 0 rfl) ?_
    refine lv_iconst (v := (-1)) hx hb d_De_drop_10 (by decide) ?_
    refine lv_icmp_ne (tgt := 16) hx hb d_De_drop_11 (by decide) (fun c9 => absurd rfl c9) (fun _ => ?_)
    refine lv_iconst (v := (-1)) hx hb d_De_drop_14 (by decide) ?_
    exact W.iret (v := (-1)) hx hb hr (fun t9 h9t h9W => ⟨⟨_, (L, f), rfl, Or.inl ⟨hf, rfl, rfl⟩, by rw [h9t]; exact hP, hD⟩, hS.F h9t⟩) hS.2.2 d_De_drop_15
  · have hq : q < rn ∧ nI (nu q) = x := of_decide_eq_true (fst0_t hf).1
    have hnq := (hR.2.2.2 q hq.1).2.1
    obtain ⟨hq, rfl⟩ := hq
    refine xv_I (y := nI q) (by rw [hf]; rfl) ?_
    refine lv_istore_n (lv' := [(2, .int (nI q)), (0, .ref x0), (1, .int (nI (nu q)))]) hx hb d_De_drop_8 rfl hl (by decide) rfl (fun ls hl => ?_)
    refine lv_iload_n hx hb d_De_drop_9 rfl (lv_at hl 0 rfl) ?_
    refine lv_iconst (v := (-1)) hx hb d_De_drop_10 (by decide) ?_
    refine lv_icmp_ne (tgt := 16) hx hb d_De_drop_11 (by decide) (fun _ => ?_) (fun c9 => absurd c9 (nI_m1 (by omega)))
    refine lv_aload_n hx hb d_De_drop_16 rfl (lv_at hl 1 rfl) ?_
    refine va_get (D := G.1) (ci := 4) (v := .ref rb) (C := R_De) (T := T_De) (N := 2) hx hb hA in_De hown hK.1 (pl_o hP hx0) 0 rfl rfl 1 (by decide) (hA _ kw_81) (fun _ h9 => h9) rfl d_De_drop_17 ?_
    refine lv_iload_n hx hb d_De_drop_20 rfl (lv_at hl 0 rfl) ?_
    refine lv_iload_n hx hb d_De_drop_21 rfl (lv_at hl 2 rfl) ?_
    have hFc := am_free hD hS hA0
    refine va_calli (va_runVN (As := [.int (nI q), .int (nI (nu q))]) (rest := []) ⟨hx, hb, hml, hown, hA⟩ (c_Rb_rem l G L f s.heap.size (pl_nd hD) hR hI q (nu q) hq hnq) ⟨va_cnB 2 hA (gAW kw_167) rfl rfl rfl (hK.2.1 _ kz_36) (hA _ kw_48) (by decide +kernel) ⟨Nat.le_of_ble_eq_true rfl, Nat.le_of_ble_eq_true rfl⟩, (hA _ kw_168), (hA _ kw_169)⟩ (pz_preV (ci := 3) hP hK hrb rfl) rfl rfl hl.1 rfl (lv_room (Nat.le_of_ble_eq_true rfl)) d_De_drop_22 ⟨Nat.le_of_ble_eq_true rfl, Nat.le_of_ble_eq_true rfl⟩) hS (fun q _ h => hFc q h) hFc (fun r_3 u9 t9 H1 locs ht9 hvm hw hWB hz1 hk1 hS => ?_)
    obtain ⟨L_1, f_1⟩ := u9
    obtain ⟨hP, hD1⟩ := hWB
    rw [ht9] at hP
    have hD := va_Dw hD1 hFc
    clear hD1 hk1 hz1 hFc ht9 hvm
    generalize H1 = H at hP hS ⊢
    dsimp only at hP hD
    obtain ⟨hrr, hz1, hk1, hR1⟩ := hw
    try dsimp only at hz1 hR1
    exact W.iret (v := r_3) hx hb hr (fun t9 h9t h9W => ⟨⟨_, (L_1, f_1), rfl, Or.inr ⟨q, hf, hq, hrr, hz1, hk1, hR1⟩, by rw [h9t]; exact hP, hD⟩, hS.F h9t⟩) hS.2.2 d_De_drop_25
end
section
/-! What the document says, as functions: conditions by number, rules by number. -/
theorem hK_congr {mm : Nat → Bool} {h h' : Nat → Nat → Bool} {n k a b c q : Nat} {xa xb xc : Int32} (ho : okC n k xa xb xc a b c) (e : ∀ j, j < n → h j q = h' j q) : hK mm h k a b c q = hK mm h' k a b c q := by
  obtain ⟨hk, -, -, -, -, -, -, -, -, -, h6, h7, h10⟩ := ho
  unfold hK
  rcases (show k = 0 ∨ k = 1 ∨ k = 2 ∨ k = 3 ∨ k = 4 ∨ k = 5 ∨ k = 6 ∨ k = 7 ∨ k = 8 ∨ k = 9 ∨ k = 10 by omega) with z | z | z | z | z | z | z | z | z | z | z <;> subst z
  · rfl
  · rfl
  · rfl
  · rfl
  · rfl
  · rfl
  · show (!h a q) = !h' a q
    rw [e a (h6 rfl)]
  · show (h a q && h b q) = (h' a q && h' b q)
    rw [e a (h7 (Or.inl rfl)).1, e b (h7 (Or.inl rfl)).2]
  · show (h a q || h b q) = (h' a q || h' b q)
    rw [e a (h7 (Or.inr rfl)).1, e b (h7 (Or.inr rfl)).2]
  · rfl
  · show (((h a q && h b q) || (h a q && h c q)) || (h b q && h c q)) = (((h' a q && h' b q) || (h' a q && h' c q)) || (h' b q && h' c q))
    rw [e a (h10 rfl).1, e b (h10 rfl).2.1, e c (h10 rfl).2.2]
def hol (mm : Nat → Bool) (kd ca cb cc : Nat → Nat) : Nat → Nat → Nat → Bool
  | 0, _, _ => false
  | n + 1, i, q => hK mm (hol mm kd ca cb cc n) (kd i) (ca i) (cb i) (cc i) q
theorem hol_stab {n : Nat} {mm : Nat → Bool} {kd ca cb cc : Nat → Nat} {ka kb kc : Nat → Int32} (hO : OkN n kd ka kb kc ca cb cc) (q : Nat) : ∀ (m i : Nat), i < m → i < n → ∀ f, i < f → hol mm kd ca cb cc f i q = hol mm kd ca cb cc (i + 1) i q
  | 0, i, h, _, _, _ => absurd h (Nat.not_lt_zero i)
  | m + 1, i, h, hi, f, hf => by
    obtain ⟨g, rfl⟩ : ∃ g, f = g + 1 := ⟨f - 1, by omega⟩
    show hK mm (hol mm kd ca cb cc g) (kd i) (ca i) (cb i) (cc i) q = hK mm (hol mm kd ca cb cc i) (kd i) (ca i) (cb i) (cc i) q
    refine hK_congr (hO i hi) (fun j hj => ?_)
    rw [hol_stab hO q m j (by omega) (by omega) g (by omega), hol_stab hO q m j (by omega) (by omega) i hj]
/-- condition i holds for ask q -/
def hold (mm : Nat → Bool) (kd ca cb cc : Nat → Nat) (i q : Nat) : Bool := hol mm kd ca cb cc 60 i q
theorem hold_eq {n : Nat} {mm : Nat → Bool} {kd ca cb cc : Nat → Nat} {ka kb kc : Nat → Int32} (hO : OkN n kd ka kb kc ca cb cc) (hn : n ≤ 60) {i : Nat} (hi : i < n) (q : Nat) : hold mm kd ca cb cc i q = hK mm (hold mm kd ca cb cc) (kd i) (ca i) (cb i) (cc i) q := by
  unfold hold
  rw [hol_stab hO q (i + 1) i (by omega) hi 60 (by omega)]
  show hK mm (hol mm kd ca cb cc i) (kd i) (ca i) (cb i) (cc i) q = _
  refine hK_congr (hO i hi) (fun j hj => ?_)
  rw [hol_stab hO q (j + 1) j (by omega) (by omega) i hj, hol_stab hO q (j + 1) j (by omega) (by omega) 60 (by omega)]
theorem aB_hold {n : Nat} {mm : Nat → Bool} {kd ca cb cc : Nat → Nat} {ka kb kc : Nat → Int32} {wd : Nat → Nat → Int64} (hO : OkN n kd ka kb kc ca cb cc) (hW : OkW n kd ca cb cc wd mm) (hn : n ≤ 60) {q : Nat} (hq : q < 6144) : ∀ (m i : Nat), i < m → i < n → aB (wd i) q = hold mm kd ca cb cc i q
  | 0, i, h, _ => absurd h (Nat.not_lt_zero i)
  | m + 1, i, h, hi => by
    rw [hold_eq hO hn hi]
    have e : aB (wd i) q = hK mm (fun j => aB (wd j)) (kd i) (ca i) (cb i) (cc i) q := by
      unfold aB
      rw [hW i hi (q / 64) (by omega), wrd_ok (hO i hi) (Nat.mod_lt _ (by omega)), show 64 * (q / 64) + q % 64 = q by omega]
      rfl
    rw [e]
    exact hK_congr (hO i hi) (fun j hj => aB_hold hO hW hn hq m j (by omega) (by omega))
/-! ### the rule that decides -/
/-- of two rules, by rank, those that deny first, then by number -/
def klt (rk : Nat → Nat) (dn : Nat → Bool) (i j : Nat) : Prop := rk i < rk j ∨ (rk i = rk j ∧ ((dn i = true ∧ dn j = false) ∨ (dn i = dn j ∧ i < j)))
def pick (P : Nat → Bool) (rk : Nat → Nat) (dn : Nat → Bool) : Nat → Option Nat
  | 0 => none
  | n + 1 => match pick P rk dn n with
    | none => if P n = true then some n else none
    | some m => if (P n && gob (rk n) (dn n) (rk m) (dn m)) = true then some n else some m
theorem gob_iff {r1 r2 : Nat} {d1 d2 : Bool} : gob r1 d1 r2 d2 = true ↔ r1 < r2 ∨ (r1 = r2 ∧ d1 = true ∧ d2 = false) := by
  unfold gob
  rw [Bool.or_eq_true, Bool.and_eq_true, Bool.and_eq_true, decide_eq_true_iff, decide_eq_true_iff]
  cases d1 <;> cases d2 <;> simp
theorem pick_spec (P : Nat → Bool) (rk : Nat → Nat) (dn : Nat → Bool) : ∀ n, (pick P rk dn n = none ∧ ∀ j, j < n → P j = false) ∨ (∃ m, pick P rk dn n = some m ∧ m < n ∧ P m = true ∧ ∀ j, j < n → P j = true → j ≠ m → klt rk dn m j)
  | 0 => Or.inl ⟨rfl, fun j hj => absurd hj (Nat.not_lt_zero j)⟩
  | n + 1 => by
    rcases pick_spec P rk dn n with ⟨h1, h2⟩ | ⟨m, h1, h2, h3, h4⟩
    · have e : pick P rk dn (n + 1) = if P n = true then some n else none := by
        show (match pick P rk dn n with | none => if P n = true then some n else none | some m => if (P n && gob (rk n) (dn n) (rk m) (dn m)) = true then some n else some m) = _
        rw [h1]
      rw [e]
      by_cases hp : P n = true
      · rw [if_pos hp]
        refine Or.inr ⟨n, rfl, by omega, hp, fun j hj hpj hne => ?_⟩
        rw [h2 j (by omega)] at hpj
        cases hpj
      · rw [if_neg hp]
        refine Or.inl ⟨rfl, fun j hj => ?_⟩
        by_cases e2 : j = n
        · rw [e2]; exact ts_f hp
        · exact h2 j (by omega)
    · have e : pick P rk dn (n + 1) = if (P n && gob (rk n) (dn n) (rk m) (dn m)) = true then some n else some m := by
        show (match pick P rk dn n with | none => if P n = true then some n else none | some m => if (P n && gob (rk n) (dn n) (rk m) (dn m)) = true then some n else some m) = _
        rw [h1]
      rw [e]
      right
      by_cases hp : (P n && gob (rk n) (dn n) (rk m) (dn m)) = true
      · rw [if_pos hp]
        rw [Bool.and_eq_true] at hp
        obtain ⟨hp, hg⟩ := hp
        rw [gob_iff] at hg
        refine ⟨n, rfl, by omega, hp, fun j hj hpj hne => ?_⟩
        by_cases e2 : j = m
        · subst e2
          unfold klt
          rcases hg with z | ⟨z1, z2, z3⟩
          · exact Or.inl z
          · exact Or.inr ⟨z1, Or.inl ⟨z2, z3⟩⟩
        · have := h4 j (by omega) hpj e2
          unfold klt at this ⊢
          rcases this with y | ⟨y1, y2⟩
          · left
            rcases hg with z | ⟨z1, -⟩ <;> omega
          · rcases hg with z | ⟨z1, z2, z3⟩
            · left
              omega
            · right
              refine ⟨by omega, Or.inl ⟨z2, ?_⟩⟩
              rcases y2 with ⟨y3, y4⟩ | ⟨y3, y4⟩
              · rw [z3] at y3; cases y3
              · rw [← y3]; exact z3
      · rw [if_neg hp]
        refine ⟨m, rfl, by omega, h3, fun j hj hpj hne => ?_⟩
        by_cases e2 : j = n
        · subst e2
          rw [hpj, Bool.true_and] at hp
          have hp : ¬ (rk j < rk m ∨ (rk j = rk m ∧ dn j = true ∧ dn m = false)) := fun z => hp (gob_iff.mpr z)
          unfold klt
          by_cases r : rk m < rk j
          · exact Or.inl r
          · right
            refine ⟨by omega, ?_⟩
            cases hm : dn m with
            | true =>
              cases hj2 : dn j with
              | true => exact Or.inr ⟨rfl, h2⟩
              | false => exact Or.inl ⟨rfl, rfl⟩
            | false =>
              cases hj2 : dn j with
              | true => exact absurd (Or.inr ⟨by omega, hj2, hm⟩) hp
              | false => exact Or.inr ⟨rfl, h2⟩
        · exact h4 j (by omega) hpj hne
theorem klt_asymm {rk : Nat → Nat} {dn : Nat → Bool} {i j : Nat} (h1 : klt rk dn i j) (h2 : klt rk dn j i) : False := by
  unfold klt at h1 h2
  rcases h1 with a | ⟨a1, ⟨a2, a3⟩ | ⟨a2, a3⟩⟩ <;> rcases h2 with b | ⟨b1, ⟨b2, b3⟩ | ⟨b2, b3⟩⟩
  · omega
  · omega
  · omega
  · omega
  · rw [a2] at b3; cases b3
  · rw [a2, a3] at b2; cases b2
  · omega
  · rw [b2, b3] at a2; cases a2
  · omega
/-- the one that goes before all others that hold -/
theorem pick_of {P : Nat → Bool} {rk : Nat → Nat} {dn : Nat → Bool} {n m : Nat} (hm : m < n) (hp : P m = true) (h : ∀ j, j < n → P j = true → j ≠ m → klt rk dn m j) : pick P rk dn n = some m := by
  rcases pick_spec P rk dn n with ⟨h1, h2⟩ | ⟨m', h1, h2, h3, h4⟩
  · rw [h2 m hm] at hp
    cases hp
  · by_cases e : m' = m
    · rw [h1, e]
    · exact (klt_asymm (h4 m hm hp (fun z => e z.symm)) (h m' h2 h3 e)).elim
theorem pick_none {P : Nat → Bool} {rk : Nat → Nat} {dn : Nat → Bool} {n : Nat} (h : ∀ j, j < n → P j = false) : pick P rk dn n = none := by
  rcases pick_spec P rk dn n with ⟨h1, -⟩ | ⟨m', h1, h2, h3, -⟩
  · exact h1
  · rw [h m' h2] at h3
    cases h3
theorem pick_some {P : Nat → Bool} {rk : Nat → Nat} {dn : Nat → Bool} {n m : Nat} (h : pick P rk dn n = some m) : m < n ∧ P m = true ∧ ∀ j, j < n → P j = true → j ≠ m → klt rk dn m j := by
  rcases pick_spec P rk dn n with ⟨h1, -⟩ | ⟨m', h1, h2, h3, h4⟩
  · rw [h1] at h; cases h
  · rw [h1] at h
    cases h
    exact ⟨h2, h3, h4⟩
/-- the row: rules by place, sorted; nu: the number of the rule at a place -/
def Row (n : Nat) (nu rk : Nat → Nat) (dn : Nat → Bool) (rc RK : Nat → Nat) (DN : Nat → Bool) (RC : Nat → Nat) : Prop :=
  (∀ p, p < n → nu p < n ∧ rk p = RK (nu p) ∧ dn p = DN (nu p) ∧ rc p = RC (nu p)) ∧ (∀ m, m < n → ∃ p, p < n ∧ nu p = m) ∧ ∀ p q, p < q → q < n → klt RK DN (nu p) (nu q)
theorem klt_irrefl {rk : Nat → Nat} {dn : Nat → Bool} {i : Nat} (h : klt rk dn i i) : False := klt_asymm h h
theorem Row.inj {n : Nat} {nu rk : Nat → Nat} {dn : Nat → Bool} {rc RK : Nat → Nat} {DN : Nat → Bool} {RC : Nat → Nat} (h : Row n nu rk dn rc RK DN RC) {p q : Nat} (hp : p < n) (hq : q < n) (e : nu p = nu q) : p = q := by
  rcases Nat.lt_trichotomy p q with z | z | z
  · have := h.2.2 p q z hq
    rw [e] at this
    exact (klt_irrefl this).elim
  · exact z
  · have := h.2.2 q p z hp
    rw [e] at this
    exact (klt_irrefl this).elim
/-- the first place that holds is the rule that decides -/
theorem Row.first {n : Nat} {nu rk : Nat → Nat} {dn : Nat → Bool} {rc RK : Nat → Nat} {DN : Nat → Bool} {RC : Nat → Nat} (h : Row n nu rk dn rc RK DN RC) (P : Nat → Bool) : pick P RK DN n = (fst0 (fun p => P (nu p)) n 0).map nu := by
  cases e : fst0 (fun p => P (nu p)) n 0 with
  | none =>
    refine pick_none (fun m hm => ?_)
    obtain ⟨p, hp, rfl⟩ := h.2.1 m hm
    exact fst0_n e p (by omega) (by omega)
  | some p =>
    obtain ⟨h1, h2, h3, h4⟩ := fst0_s e
    show _ = some (nu p)
    refine pick_of (h.1 p (by omega)).1 h3 (fun m hm hpm hne => ?_)
    obtain ⟨q, hq, rfl⟩ := h.2.1 m hm
    rcases Nat.lt_trichotomy p q with z | z | z
    · exact h.2.2 p q z hq
    · exact absurd (congrArg nu z.symm) hne
    · have : P (nu q) = false := h4 q (by omega) z
      rw [this] at hpm
      cases hpm
end
section
/-! The model: its cells, its answers. -/
def inB (x lo hi : Int32) : Bool := decide (lo ≤ x ∧ x ≤ hi)
theorem inB_t {x lo hi : Int32} (h1 : ¬ x < lo) (h2 : ¬ hi < x) : inB x lo hi = true := decide_eq_true ⟨Int32.not_lt.mp h1, Int32.not_lt.mp h2⟩
theorem inB_f1 {x lo hi : Int32} (h : x < lo) : inB x lo hi = false := decide_eq_false (fun q => absurd h (Int32.not_lt.mpr q.1))
theorem inB_f2 {x lo hi : Int32} (h : hi < x) : inB x lo hi = false := decide_eq_false (fun q => absurd h (Int32.not_lt.mpr q.2))
theorem inB_0 {x : Int32} {n : Nat} (hn : n + 1 < 2 ^ 31) : inB x (nI 0) (nI n) = blw x (nI (n + 1)) := by
  unfold inB blw
  have e0 : (0 : Int32).toInt = 0 := by decide
  have e1 := nI_toInt (n := 0) (by omega)
  have e2 := nI_toInt (n := n) (by omega)
  have e3 := nI_toInt (n := n + 1) hn
  apply decide_eq_decide.mpr
  rw [Int32.le_iff_toInt_le, Int32.le_iff_toInt_le, Int32.lt_iff_toInt_lt, Int32.lt_iff_toInt_lt, e0, e1, e2, e3]
  omega
theorem inB_pred {x : Int32} {n : Nat} (hn : n < 2 ^ 30) : inB x (nI 0) (nI n - nI 1) = blw x (nI n) := by
  unfold inB blw
  have e0 : (0 : Int32).toInt = 0 := by decide
  have e1 := nI_toInt (n := 0) (by omega)
  have e2 := pk_sub_toInt (a := n) (b := 1) hn (by omega)
  have e3 := nI_toInt (n := n) (by omega)
  apply decide_eq_decide.mpr
  rw [Int32.le_iff_toInt_le, Int32.le_iff_toInt_le, Int32.lt_iff_toInt_lt, Int32.lt_iff_toInt_lt, e0, e1, e2, e3]
  omega
theorem inB_nI {q a b : Nat} (hq : q < 2 ^ 31) (ha : a < 2 ^ 31) (hb : b < 2 ^ 31) : inB (nI q) (nI a) (nI b) = decide (a ≤ q ∧ q ≤ b) := by
  unfold inB
  apply decide_eq_decide.mpr
  rw [nI_leI ha hq, nI_leI hq hb]
/-- a bit of an int -/
def iB (x : Int32) (b : Nat) : Bool := decide ((x >>> (nI b &&& 31)) &&& nI 1 = nI 1)
theorem iB_c1 : ∀ b, b < 32 → nI b &&& 31 = nI b := by decide +kernel
theorem iB_c2 : ∀ b, b < 32 → ((nI b).toBitVec.smod 32).toNat = b := by decide +kernel
theorem iB_bv (x : Int32) {b : Nat} (hb : b < 32) : iB x b = x.toBitVec.getLsbD b := by
  unfold iB
  rw [iB_c1 b hb, pk_and (x >>> nI b) (m := nI 1) 1 (by decide)]
  have hy : (x >>> nI b).toBitVec = x.toBitVec.sshiftRight b := by
    show x.toBitVec.sshiftRight ((nI b).toBitVec.smod 32).toNat = _
    rw [iB_c2 b hb]
  have h0 : (x >>> nI b).toBitVec.getLsbD 0 = x.toBitVec.getLsbD b := by
    rw [hy, BitVec.getLsbD_sshiftRight, Nat.add_zero, if_pos hb]
    simp
  rw [← h0]
  have h1 : (x >>> nI b).toBitVec.getLsbD 0 = decide ((x >>> nI b).toBitVec.toNat % 2 = 1) := by
    unfold BitVec.getLsbD
    rw [Nat.testBit_zero]
  rw [h1]
  apply decide_eq_decide.mpr
  have h2 : (x >>> nI b).toBitVec.toNat % 2 ^ 1 < 2 ^ 31 := Nat.lt_of_lt_of_le (Nat.mod_lt _ (by decide)) (by decide)
  rw [nI_eq h2 (by decide)]
theorem iB_or (x y : Int32) {b : Nat} (hb : b < 32) : iB (x ||| y) b = (iB x b || iB y b) := by
  rw [iB_bv _ hb, iB_bv _ hb, iB_bv _ hb, Int32.toBitVec_or, BitVec.getLsbD_or]
theorem iB_xor (x y : Int32) {b : Nat} (hb : b < 32) : iB (x ^^^ y) b = (iB x b ^^ iB y b) := by
  rw [iB_bv _ hb, iB_bv _ hb, iB_bv _ hb, Int32.toBitVec_xor, BitVec.getLsbD_xor]
theorem iB_one : ∀ k, k < 32 → ∀ j, j < 32 → iB (nI 1 <<< (nI k &&& 31)) j = decide (j = k) := by decide +kernel
theorem iB_0 : ∀ j, j < 32 → iB (nI 0) j = false := by decide +kernel
/-- condition c holds for ask q, by the model's bits -/
def mB (bf : Nat → Int32) (c q : Nat) : Bool := iB (bf (192 * c + q / 32)) (q % 32)
def mkW (P : Nat → Bool) (w : Nat) : Nat → Int32
  | 0 => nI 0
  | k + 1 => mkW P w k ||| (if P (32 * w + k) = true then nI 1 <<< (nI k &&& 31) else nI 0)
theorem mkW_ok (P : Nat → Bool) (w : Nat) : ∀ k, k ≤ 32 → ∀ j, j < 32 → iB (mkW P w k) j = (decide (j < k) && P (32 * w + j))
  | 0, _, j, hj => by
    rw [decide_eq_false (Nat.not_lt_zero j), Bool.false_and]
    exact iB_0 j hj
  | k + 1, hk, j, hj => by
    show iB (mkW P w k ||| _) j = _
    rw [iB_or _ _ hj, mkW_ok P w k (by omega) j hj]
    have e : iB (if P (32 * w + k) = true then nI 1 <<< (nI k &&& 31) else nI 0) j = (P (32 * w + k) && decide (j = k)) := by
      cases hp : P (32 * w + k) with
      | true =>
        rw [if_pos rfl, iB_one k (by omega) j hj, Bool.true_and]
      | false =>
        rw [if_neg (by decide), iB_0 j hj, Bool.false_and]
    rw [e]
    by_cases h : j = k
    · subst h
      rw [decide_eq_false (Nat.lt_irrefl j), decide_eq_true rfl, decide_eq_true (Nat.lt_succ_self j), Bool.false_and, Bool.false_or, Bool.and_true, Bool.true_and]
    · rw [decide_eq_false h, Bool.and_false, Bool.or_false]
      have : decide (j < k) = decide (j < k + 1) := decide_eq_decide.mpr (by omega)
      rw [this]
/-- while condition i is made: its first w words are done -/
def MkI (bf bv : Nat → Int32) (P : Nat → Bool) (i w : Nat) : Prop := (∀ x, x < 192 * i ∨ 192 * i + w ≤ x → bv x = bf x) ∧ ∀ j, j < w → bv (192 * i + j) = mkW P j 32
theorem MkI_0 {bf : Nat → Int32} {P : Nat → Bool} {i : Nat} : MkI bf bf P i 0 := ⟨fun _ _ => rfl, fun j hj => absurd hj (Nat.not_lt_zero j)⟩
theorem MkI_s {bf bv : Nat → Int32} {P : Nat → Bool} {i w : Nat} (h : MkI bf bv P i w) : MkI bf (va_up bv (192 * i + w) (mkW P w 32)) P i (w + 1) := by
  refine ⟨fun x hx => ?_, fun j hj => ?_⟩
  · rw [va_up_ne _ _ (show x ≠ 192 * i + w by omega)]
    exact h.1 x (by omega)
  · by_cases e : j = w
    · subst e
      exact va_up_self _ _ _
    · rw [va_up_ne _ _ (show 192 * i + j ≠ 192 * i + w by omega)]
      exact h.2 j (by omega)
theorem MkI_low {bf bv : Nat → Int32} {P : Nat → Bool} {i w j q : Nat} (h : MkI bf bv P i w) (hj : j < i) (hq : q < 6144) : mB bv j q = mB bf j q := by
  unfold mB
  rw [h.1 _ (Or.inl (by omega))]
theorem MkI_end {bf bv : Nat → Int32} {P : Nat → Bool} {i : Nat} (h : MkI bf bv P i 192) : (∀ q, q < 6144 → mB bv i q = P q) ∧ ∀ j, j ≠ i → ∀ q, q < 6144 → mB bv j q = mB bf j q := by
  refine ⟨fun q hq => ?_, fun j hj q hq => ?_⟩
  · unfold mB
    rw [h.2 (q / 32) (by omega), mkW_ok P (q / 32) 32 (by omega) _ (Nat.mod_lt _ (by omega)), decide_eq_true (Nat.mod_lt _ (by omega)), Bool.true_and, show 32 * (q / 32) + q % 32 = q by omega]
  · unfold mB
    rw [h.1 _ (by omega)]
/-- the model's groups -/
def GrI (gf : Nat → Int32) (mm : Nat → Bool) : Prop := ∀ p, p < 8 → ∀ g, g < 8 → iB (gf p) g = mm (p * 8 + g)
theorem GrI_set {gf : Nat → Int32} {mm : Nat → Bool} {u v : Nat} {b : Bool} (h : GrI gf mm) (hu : u < 8) (hv : v < 8) (hb : ¬ mm (u * 8 + v) = b) : GrI (va_up gf u (gf u ^^^ (nI 1 <<< (nI v &&& 31)))) (va_up mm (u * 8 + v) b) := by
  intro p hp g hg
  by_cases e : p = u
  · subst e
    rw [va_up_self, iB_xor _ _ (by omega), iB_one v (by omega) g (by omega), h p hp g hg]
    by_cases e2 : g = v
    · subst e2
      rw [va_up_self, decide_eq_true rfl]
      cases hm : mm (p * 8 + g) <;> cases b <;> first | rfl | exact absurd hm hb
    · rw [va_up_ne _ _ (show p * 8 + g ≠ p * 8 + v by omega), decide_eq_false e2, Bool.xor_false]
  · rw [va_up_ne _ _ e, va_up_ne _ _ (show p * 8 + g ≠ u * 8 + v by omega)]
    exact h p hp g hg
/-- the model's bits are what the conditions say -/
def BiI (n : Nat) (mm : Nat → Bool) (kd ca cb cc : Nat → Nat) (bf : Nat → Int32) : Prop := ∀ i, i < n → ∀ q, q < 6144 → mB bf i q = hK mm (mB bf) (kd i) (ca i) (cb i) (cc i) q
theorem BiI_next {n i : Nat} {mm : Nat → Bool} {kd ca cb cc : Nat → Nat} {ka kb kc : Nat → Int32} {bv bw : Nat → Int32} (hO : OkN n kd ka kb kc ca cb cc) (hi : i < n) (h : BiI i mm kd ca cb cc bv)
    (h1 : ∀ q, q < 6144 → mB bw i q = hK mm (mB bv) (kd i) (ca i) (cb i) (cc i) q) (h2 : ∀ j, j ≠ i → ∀ q, q < 6144 → mB bw j q = mB bv j q) : BiI (i + 1) mm kd ca cb cc bw := by
  intro j hj q hq
  have hc : hK mm (mB bw) (kd j) (ca j) (cb j) (cc j) q = hK mm (mB bv) (kd j) (ca j) (cb j) (cc j) q := hK_congr (hO j (by omega)) (fun j' hj' => h2 j' (by omega) q hq)
  rw [hc]
  by_cases e : j = i
  · subst e
    exact h1 q hq
  · rw [h2 j e q hq]
    exact h j (by omega) q hq
theorem BiI_hold {n : Nat} {mm : Nat → Bool} {kd ca cb cc : Nat → Nat} {ka kb kc : Nat → Int32} {bf : Nat → Int32} (hO : OkN n kd ka kb kc ca cb cc) (hn : n ≤ 60) (h : BiI n mm kd ca cb cc bf) {q : Nat} (hq : q < 6144) : ∀ (m i : Nat), i < m → i < n → mB bf i q = hold mm kd ca cb cc i q
  | 0, i, h0, _ => absurd h0 (Nat.not_lt_zero i)
  | m + 1, i, h0, hi => by
    rw [hold_eq hO hn hi, h i hi q hq]
    exact hK_congr (hO i hi) (fun j hj => BiI_hold hO hn h hq m j (by omega) (by omega))
/-! ### the rule that decides, as the model finds it -/
def frF (P : Nat → Bool) (rk : Nat → Nat) : Nat → Nat
  | 0 => 10
  | k + 1 => if (P k && decide (rk k < frF P rk k)) = true then rk k else frF P rk k
theorem frF_t {P : Nat → Bool} {rk : Nat → Nat} {k : Nat} (h : P k = true) (h2 : rk k < frF P rk k) : frF P rk (k + 1) = rk k := by
  show (if (P k && decide (rk k < frF P rk k)) = true then rk k else frF P rk k) = _
  rw [h, decide_eq_true h2]
  rfl
theorem frF_f1 {P : Nat → Bool} {rk : Nat → Nat} {k : Nat} (h : P k = false) : frF P rk (k + 1) = frF P rk k := by
  show (if (P k && decide (rk k < frF P rk k)) = true then rk k else frF P rk k) = _
  rw [h]
  rfl
theorem frF_f2 {P : Nat → Bool} {rk : Nat → Nat} {k : Nat} (h2 : ¬ rk k < frF P rk k) : frF P rk (k + 1) = frF P rk k := by
  show (if (P k && decide (rk k < frF P rk k)) = true then rk k else frF P rk k) = _
  rw [decide_eq_false h2, Bool.and_false]
  rfl
theorem frF_le (P : Nat → Bool) (rk : Nat → Nat) : ∀ n, frF P rk n ≤ 10
  | 0 => Nat.le_refl _
  | n + 1 => by
    show (if (P n && decide (rk n < frF P rk n)) = true then rk n else frF P rk n) ≤ 10
    have := frF_le P rk n
    split
    · rename_i h
      rw [Bool.and_eq_true, decide_eq_true_iff] at h
      omega
    · exact this
theorem frF_spec (P : Nat → Bool) (rk : Nat → Nat) : ∀ n, (∀ j, j < n → rk j < 10) → (∀ j, j < n → P j = true → frF P rk n ≤ rk j) ∧ ((frF P rk n = 10 ∧ ∀ j, j < n → P j = false) ∨ ∃ j, j < n ∧ P j = true ∧ rk j = frF P rk n)
  | 0, _ => ⟨fun j hj => absurd hj (Nat.not_lt_zero j), Or.inl ⟨rfl, fun j hj => absurd hj (Nat.not_lt_zero j)⟩⟩
  | n + 1, h => by
    obtain ⟨h1, h2⟩ := frF_spec P rk n (fun j hj => h j (by omega))
    have h10 := h n (by omega)
    rcases bcase (P n) with hp | hp
    · rw [frF_f1 hp]
      refine ⟨fun j hj hpj => ?_, ?_⟩
      · by_cases e : j = n
        · rw [e, hp] at hpj; cases hpj
        · exact h1 j (by omega) hpj
      · rcases h2 with ⟨a, b⟩ | ⟨j, a, b, c⟩
        · refine Or.inl ⟨a, fun j hj => ?_⟩
          by_cases e : j = n
          · rw [e]; exact hp
          · exact b j (by omega)
        · exact Or.inr ⟨j, by omega, b, c⟩
    · by_cases hl : rk n < frF P rk n
      · rw [frF_t hp hl]
        refine ⟨fun j hj hpj => ?_, Or.inr ⟨n, by omega, hp, rfl⟩⟩
        by_cases e : j = n
        · rw [e]; exact Nat.le_refl _
        · have := h1 j (by omega) hpj
          omega
      · rw [frF_f2 hl]
        refine ⟨fun j hj hpj => ?_, ?_⟩
        · by_cases e : j = n
          · rw [e]; omega
          · exact h1 j (by omega) hpj
        · rcases h2 with ⟨a, b⟩ | ⟨j, a, b, c⟩
          · omega
          · exact Or.inr ⟨j, by omega, b, c⟩
def alw (dn : Nat → Bool) (o : Option Nat) : Bool := match o with
  | none => false
  | some k => !dn k
def dcC (P : Nat → Bool) (rk : Nat → Nat) (dn : Nat → Bool) (least k : Nat) (o : Option Nat) : Bool := P k && (decide (rk k = least) && (dn k || (o.isNone || alw dn o)))
def dcF (P : Nat → Bool) (rk : Nat → Nat) (dn : Nat → Bool) (least n : Nat) : Nat → Option Nat
  | 0 => none
  | i + 1 => if dcC P rk dn least (n - 1 - i) (dcF P rk dn least n i) = true then some (n - 1 - i) else dcF P rk dn least n i
theorem dcF_t {P : Nat → Bool} {rk : Nat → Nat} {dn : Nat → Bool} {least n i : Nat} (h : dcC P rk dn least (n - 1 - i) (dcF P rk dn least n i) = true) : dcF P rk dn least n (i + 1) = some (n - 1 - i) := if_pos h
theorem dcF_f {P : Nat → Bool} {rk : Nat → Nat} {dn : Nat → Bool} {least n i : Nat} (h : dcC P rk dn least (n - 1 - i) (dcF P rk dn least n i) = false) : dcF P rk dn least n (i + 1) = dcF P rk dn least n i := if_neg (by rw [h]; decide)
theorem dcF_lt {P : Nat → Bool} {rk : Nat → Nat} {dn : Nat → Bool} {least n : Nat} : ∀ i, i ≤ n → ∀ m, dcF P rk dn least n i = some m → m < n
  | 0, _, m, h => by cases h
  | i + 1, hi, m, h => by
    rcases bcase (dcC P rk dn least (n - 1 - i) (dcF P rk dn least n i)) with hc | hc
    · rw [dcF_f hc] at h
      exact dcF_lt i (by omega) m h
    · rw [dcF_t hc] at h
      cases h
      omega
theorem dcF_spec {P : Nat → Bool} {rk : Nat → Nat} {dn : Nat → Bool} {least n : Nat} : ∀ i, i ≤ n → (dcF P rk dn least n i = none ∧ ∀ j, n - i ≤ j → j < n → P j = true → rk j ≠ least) ∨
    (∃ m, dcF P rk dn least n i = some m ∧ n - i ≤ m ∧ m < n ∧ P m = true ∧ rk m = least ∧ ∀ j, n - i ≤ j → j < n → P j = true → rk j = least → j ≠ m → (dn m = true ∧ dn j = false) ∨ (dn m = dn j ∧ m < j))
  | 0, _ => Or.inl ⟨rfl, fun j h1 h2 => by omega⟩
  | i + 1, hi => by
    have ek : n - (i + 1) = n - 1 - i := by omega
    rw [ek]
    have hlow : ∀ j, n - 1 - i ≤ j → j ≠ n - 1 - i → n - i ≤ j := fun j h1 h2 => by omega
    have hk : n - 1 - i < n := by omega
    have hk2 : n - 1 - i < n - i := by omega
    generalize n - 1 - i = k at hlow hk hk2 ⊢ ek
    have et : dcC P rk dn least k (dcF P rk dn least n i) = true → dcF P rk dn least n (i + 1) = some k := fun h => by
      have h' : dcC P rk dn least (n - 1 - i) (dcF P rk dn least n i) = true := by rw [show n - 1 - i = k by omega]; exact h
      rw [dcF_t h']
      congr 1
      omega
    have ef : dcC P rk dn least k (dcF P rk dn least n i) = false → dcF P rk dn least n (i + 1) = dcF P rk dn least n i := fun h => by
      have h' : dcC P rk dn least (n - 1 - i) (dcF P rk dn least n i) = false := by rw [show n - 1 - i = k by omega]; exact h
      exact dcF_f h'
    rcases dcF_spec (P := P) (rk := rk) (dn := dn) (least := least) (n := n) i (by omega) with ⟨h1, h2⟩ | ⟨m, h1, h2, h3, h4, h5, h6⟩
    · rcases bcase (dcC P rk dn least k (dcF P rk dn least n i)) with hc | hc
      · rw [ef hc]
        refine Or.inl ⟨h1, fun j g1 g2 g3 g4 => ?_⟩
        by_cases e : j = k
        · subst e
          rw [h1] at hc
          unfold dcC at hc
          rw [g3, decide_eq_true g4] at hc
          cases hd : dn j <;> rw [hd] at hc <;> simp at hc
        · exact h2 j (hlow j g1 e) g2 g3 g4
      · rw [et hc]
        unfold dcC at hc
        rw [Bool.and_eq_true, Bool.and_eq_true, decide_eq_true_iff] at hc
        refine Or.inr ⟨k, rfl, Nat.le_refl _, hk, hc.1, hc.2.1, fun j g1 g2 g3 g4 g5 => ?_⟩
        exact absurd g4 (h2 j (hlow j g1 g5) g2 g3)
    · rcases bcase (dcC P rk dn least k (dcF P rk dn least n i)) with hc | hc
      · rw [ef hc]
        refine Or.inr ⟨m, h1, by omega, h3, h4, h5, fun j g1 g2 g3 g4 g5 => ?_⟩
        by_cases e : j = k
        · subst e
          rw [h1] at hc
          unfold dcC at hc
          rw [g3, decide_eq_true g4] at hc
          left
          cases hd : dn j with
          | true => rw [hd] at hc; simp at hc
          | false =>
            rw [hd] at hc
            unfold alw at hc
            cases hm : dn m with
            | true => exact ⟨rfl, rfl⟩
            | false => simp [hm] at hc
        · exact h6 j (hlow j g1 e) g2 g3 g4 g5
      · rw [et hc]
        rw [h1] at hc
        unfold dcC alw at hc
        rw [Bool.and_eq_true, Bool.and_eq_true, decide_eq_true_iff] at hc
        obtain ⟨c1, c2, c3⟩ := hc
        refine Or.inr ⟨k, rfl, Nat.le_refl _, hk, c1, c2, fun j g1 g2 g3 g4 g5 => ?_⟩
        have hj := hlow j g1 g5
        cases hdk : dn k with
        | true =>
          cases hdj : dn j with
          | true => exact Or.inr ⟨rfl, by omega⟩
          | false => exact Or.inl ⟨rfl, rfl⟩
        | false =>
          have hm : dn m = false := by
            rw [hdk] at c3
            cases hm : dn m with
            | false => rfl
            | true => simp [hm] at c3
          by_cases e : j = m
          · subst e
            exact Or.inr ⟨hm.symm, by omega⟩
          · rcases h6 j hj g2 g3 g4 e with ⟨a, _⟩ | ⟨a, _⟩
            · rw [hm] at a; cases a
            · exact Or.inr ⟨by rw [← a, hm], by omega⟩
theorem dec_pick {P : Nat → Bool} {rk : Nat → Nat} {dn : Nat → Bool} {n : Nat} (hr : ∀ j, j < n → rk j < 10) : dcF P rk dn (frF P rk n) n n = pick P rk dn n := by
  obtain ⟨a1, a2⟩ := frF_spec P rk n hr
  rcases dcF_spec (P := P) (rk := rk) (dn := dn) (least := frF P rk n) (n := n) n (Nat.le_refl _) with ⟨h1, h2⟩ | ⟨m, h1, h2, h3, h4, h5, h6⟩
  · rw [h1]
    refine (pick_none (fun j hj => ?_)).symm
    rcases a2 with ⟨_, b⟩ | ⟨j', b1, b2, b3⟩
    · exact b j hj
    · exact absurd b3 (h2 j' (by omega) b1 b2)
  · rw [h1]
    refine (pick_of h3 h4 (fun j hj hp hne => ?_)).symm
    have hle := a1 j hj hp
    unfold klt
    by_cases e : rk j = frF P rk n
    · exact Or.inr ⟨by omega, h6 j (by omega) hj hp e hne⟩
    · exact Or.inl (by omega)
theorem pick_congr {P Q : Nat → Bool} {rk : Nat → Nat} {dn : Nat → Bool} : ∀ {n : Nat}, (∀ j, j < n → P j = Q j) → pick P rk dn n = pick Q rk dn n
  | 0, _ => rfl
  | n + 1, h => by
    show (match pick P rk dn n with | none => if P n = true then some n else none | some m => if (P n && gob (rk n) (dn n) (rk m) (dn m)) = true then some n else some m) = (match pick Q rk dn n with | none => if Q n = true then some n else none | some m => if (Q n && gob (rk n) (dn n) (rk m) (dn m)) = true then some n else some m)
    rw [pick_congr (fun j hj => h j (by omega)), h n (by omega)]
theorem frF_congr {P Q : Nat → Bool} {rk : Nat → Nat} : ∀ {n : Nat}, (∀ j, j < n → P j = Q j) → frF P rk n = frF Q rk n
  | 0, _ => rfl
  | n + 1, h => by
    show (if (P n && decide (rk n < frF P rk n)) = true then rk n else frF P rk n) = (if (Q n && decide (rk n < frF Q rk n)) = true then rk n else frF Q rk n)
    rw [frF_congr (fun j hj => h j (by omega)), h n (by omega)]
/-- an answer: the rule's number, or NO -/
def oI (o : Option Nat) : Int32 := match o with
  | none => -2
  | some k => nI k
theorem nI_m2 {n : Nat} (h : n < 2 ^ 31) : ¬ nI n = -2 := by
  intro q
  have a := nI_toInt h
  rw [q] at a
  have b : (-2 : Int32).toInt = -2 := by decide
  omega
/-- all rules but the one that stands aside, where their condition holds -/
def rP (bf : Nat → Int32) (rc : Nat → Nat) (x : Int32) (q k : Nat) : Bool := !decide (nI k = x) && mB bf (rc k) q
def rQ (bf : Nat → Int32) (rc : Nat → Nat) (q k : Nat) : Bool := mB bf (rc k) q
theorem rP_no {bf : Nat → Int32} {rc : Nat → Nat} {q k : Nat} (h : k < 2 ^ 31) : rP bf rc (-2) q k = rQ bf rc q k := by
  unfold rP rQ
  rw [decide_eq_false (nI_m2 h)]
  rfl
/-- the rule that decides ask q -/
def pkQ (bf : Nat → Int32) (rk : Nat → Nat) (dn : Nat → Bool) (rc : Nat → Nat) (n q : Nat) : Option Nat := pick (rQ bf rc q) rk dn n
theorem pkQ_lt {bf : Nat → Int32} {rk : Nat → Nat} {dn : Nat → Bool} {rc : Nat → Nat} {n q k : Nat} (h : pkQ bf rk dn rc n q = some k) : k < n := (pick_some h).1
theorem oI_eq {o : Option Nat} {r : Nat} (hr : r < 2 ^ 31) (ho : ∀ k, o = some k → k < 2 ^ 31) : oI o = nI r ↔ o = some r := by
  cases o with
  | none =>
    constructor
    · intro h; exact absurd h.symm (nI_m2 hr)
    · intro h; cases h
  | some k =>
    show nI k = nI r ↔ _
    rw [nI_eq (ho k rfl) hr]
    constructor
    · intro h; rw [h]
    · intro h; cases h; rfl
/-- the model's store of answers -/
def KnI (kn : Bool) (xf : Nat → Int32) (bf : Nat → Int32) (rk : Nat → Nat) (dn : Nat → Bool) (rc : Nat → Nat) (n : Nat) : Prop := kn = true → ∀ q, q < 6144 → xf q = oI (pkQ bf rk dn rc n q)
/-- the model's cells -/
def MoB (G : GG) (L : List Nat) (f : Nat → va_E) (mo gA kA fA sA tA bA rA dA cA eA cn rn : Nat) (kn : Bool) (gf : Nat → Int32) (kd : Nat → Nat) (ka kb kc bf : Nat → Int32) (rk : Nat → Nat) (dn : Nat → Bool) (rc : Nat → Nat) (xf : Nat → Int32) : Prop :=
  cn ≤ 60 ∧ rn ≤ 20 ∧ Lk L f mo (.inr (5, [.int (nI 0), .ref gA, .int (nI cn), .ref kA, .ref fA, .ref sA, .ref tA, .ref bA, .int (nI rn), .ref rA, .ref dA, .ref cA, .ref eA, .int (bI kn)])) ∧
  Lk L f gA (.inl (G.2 4, 8, .inl gf)) ∧ Lk L f kA (.inl (G.2 4, 60, .inl (fun j => nI (kd j)))) ∧ Lk L f fA (.inl (G.2 4, 60, .inl ka)) ∧ Lk L f sA (.inl (G.2 4, 60, .inl kb)) ∧ Lk L f tA (.inl (G.2 4, 60, .inl kc)) ∧
  Lk L f bA (.inl (G.2 4, 11520, .inl bf)) ∧ Lk L f rA (.inl (G.2 4, 20, .inl (fun j => nI (rk j)))) ∧ Lk L f dA (.inl (G.2 1, 20, .inl (fun j => bI (dn j)))) ∧ Lk L f cA (.inl (G.2 4, 20, .inl (fun j => nI (rc j)))) ∧ Lk L f eA (.inl (G.2 4, 6144, .inl xf)) ∧
  (kA ≠ fA ∧ kA ≠ sA ∧ kA ≠ tA ∧ fA ≠ sA ∧ fA ≠ tA ∧ sA ≠ tA ∧ rA ≠ dA ∧ rA ≠ cA ∧ dA ≠ cA)
/-- the model's cells, by what they are -/
def moE (e : va_E) : Prop := match e with
  | .inr x => x.1 = 5
  | .inl x => match x.2.2 with
    | .inl _ => x.2.1 ≠ 64
    | .inr _ => False
theorem moE_o {L : List Nat} {f : Nat → va_E} {a : Nat} {fs : List Value} (h : Lk L f a (.inr (5, fs))) : moE (f a) := by rw [h.2]; exact rfl
theorem moE_a {L : List Nat} {f : Nat → va_E} {a n : Nat} {c : ClassId} {g : Nat → Int32} (h : Lk L f a (.inl (c, n, .inl g))) (hn : n ≠ 64) : moE (f a) := by rw [h.2]; exact hn
theorem Kp.mo {L0 L : List Nat} {f0 f : Nat → va_E} {u : WU} (h : Kp (fun a => moE (f0 a)) L0 f0 (L, f)) (h2 : Kp (fun a => moE (f a)) L f u) : Kp (fun a => moE (f0 a)) L0 f0 u := fun b e hb hn => by
  have hb1 := h b e hb hn
  refine h2 b e hb1 (fun q => hn ?_)
  have e1 : f b = f0 b := by rw [show f b = e from hb1.2, hb.2]
  have q : moE (f b) := q
  rw [e1] at q
  exact q
theorem upd_nI {g : Nat → Nat} {i v : Nat} : upd (fun j => nI (g j)) i (nI v) = fun j => nI (va_up g i v j) := by
  funext j
  by_cases h : j = i
  · rw [h, va_up_self]; exact pk_us
  · rw [va_up_ne _ _ h]; exact pk_un h
theorem upd_bI {g : Nat → Bool} {i : Nat} {v : Bool} : upd (fun j => bI (g j)) i (bI v) = fun j => bI (va_up g i v j) := by
  funext j
  by_cases h : j = i
  · rw [h, va_up_self]; exact pk_us
  · rw [va_up_ne _ _ h]; exact pk_un h
theorem upd_va {g : Nat → Int32} {i : Nat} {v : Int32} : upd g i v = va_up g i v := by
  funext j
  by_cases h : j = i
  · rw [h, va_up_self]; exact pk_us
  · rw [va_up_ne _ _ h]; exact pk_un h
/-- those from m on moved down by one, up to p -/
def shM {α : Type} (m p : Nat) (g : Nat → α) : Nat → α := fun j => if m ≤ j ∧ j < p then g (j + 1) else g j
theorem shM_0 {α : Type} (m : Nat) (g : Nat → α) : shM m m g = g := by
  funext j
  exact if_neg (by omega)
theorem shM_at {α : Type} {m p : Nat} {g : Nat → α} : shM m p g (p + 1) = g (p + 1) := if_neg (by omega)
theorem shM_s {α : Type} {m p : Nat} (h : m ≤ p) (g : Nat → α) : va_up (shM m p g) p (g (p + 1)) = shM m (p + 1) g := by
  funext j
  by_cases e : j = p
  · subst e
    rw [va_up_self]
    exact (if_pos ⟨h, by omega⟩).symm
  · rw [va_up_ne _ _ e]
    unfold shM
    by_cases h2 : m ≤ j ∧ j < p
    · rw [if_pos h2, if_pos (by omega)]
    · rw [if_neg h2, if_neg (by omega)]
/-! ### the model's answers -/
def mAR (P : Nat → Bool) (y : Int32) : Nat → Nat → Int32
  | 0, _ => -2
  | k + 1, q => if P q = true ∧ nI (cnt P q) = y then nI q else mAR P y k (q + 1)
def mWR (P Q : Nat → Bool) : Nat → Nat → Int32
  | 0, _ => nI 1
  | k + 1, q => if P q = true ∧ Q q = false then nI 0 else mWR P Q k (q + 1)
def mAp (D : Nat → Bool) (b : Nat) : Nat → Nat → Int32
  | 0, _ => -2
  | k + 1, i => if D i = true then nI (b + i) else mAp D b k (i + 1)
def wouldB (fr : Nat) (al b : Bool) (r : Nat) : Bool := decide (r < fr) || (decide (r = fr) && (b && al))
/-- the first rank from r on at which a rule of that condition never decides -/
def mId (W : Nat → Nat → Bool) : Nat → Nat → Nat
  | 0, _ => 10
  | k + 1, r => if (fst0 (W r) 6144 0).isNone = true then r else mId W k (r + 1)
end
