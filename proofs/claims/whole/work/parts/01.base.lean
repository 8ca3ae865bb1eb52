-- ===== PART A: goes FIRST, ahead of the names: the tables' words, and 'selects' of the private methods out of them =====
/-- a private method of a class that the tables say can be made, by its rows of tables_1 -/
def lw_okq (q : MethodName × Nat) : Prop := (q.1.cls ≠ "java/lang/invoke/MethodHandle" ∧ q.1.cls ≠ "java/lang/invoke/VarHandle") ∧ Cond.instantiable q.1.cls q.2 ∈ tables_1 ∧ Cond.privateMethod q.1 ∈ tables_1 ∧ Cond.instanceMethod q.1 ∈ tables_1
theorem lw_p0 : lw_okq (⟨"RightDesk$ConditionBook", "setMember", "(IIZ)Z"⟩, 3) := ⟨⟨by decide +kernel, by decide +kernel⟩, List.mem_of_getElem? (i := 18) (by decide +kernel), List.mem_of_getElem? (i := 68) (by decide +kernel), List.mem_of_getElem? (i := 69) (by decide +kernel)⟩
theorem lw_p1 : lw_okq (⟨"RightDesk$ConditionBook", "isMember", "(II)Z"⟩, 3) := ⟨⟨by decide +kernel, by decide +kernel⟩, List.mem_of_getElem? (i := 18) (by decide +kernel), List.mem_of_getElem? (i := 72) (by decide +kernel), List.mem_of_getElem? (i := 73) (by decide +kernel)⟩
theorem lw_p2 : lw_okq (⟨"RightDesk$ConditionBook", "workOutAgain", "(I)V"⟩, 3) := ⟨⟨by decide +kernel, by decide +kernel⟩, List.mem_of_getElem? (i := 18) (by decide +kernel), List.mem_of_getElem? (i := 77) (by decide +kernel), List.mem_of_getElem? (i := 78) (by decide +kernel)⟩
theorem lw_p3 : lw_okq (⟨"RightDesk$ConditionBook", "at", "(I)LRightDesk$Condition;"⟩, 3) := ⟨⟨by decide +kernel, by decide +kernel⟩, List.mem_of_getElem? (i := 18) (by decide +kernel), List.mem_of_getElem? (i := 81) (by decide +kernel), List.mem_of_getElem? (i := 82) (by decide +kernel)⟩
theorem lw_p4 : lw_okq (⟨"RightDesk$ConditionBook", "workOut", "(LRightDesk$Condition;I)J"⟩, 3) := ⟨⟨by decide +kernel, by decide +kernel⟩, List.mem_of_getElem? (i := 18) (by decide +kernel), List.mem_of_getElem? (i := 85) (by decide +kernel), List.mem_of_getElem? (i := 86) (by decide +kernel)⟩
theorem lw_p5 : lw_okq (⟨"RightDesk$ConditionBook", "putTogether", "(LRightDesk$Condition;I)J"⟩, 3) := ⟨⟨by decide +kernel, by decide +kernel⟩, List.mem_of_getElem? (i := 18) (by decide +kernel), List.mem_of_getElem? (i := 99) (by decide +kernel), List.mem_of_getElem? (i := 100) (by decide +kernel)⟩
theorem lw_p6 : lw_okq (⟨"RightDesk$ConditionBook", "wordOf", "(II)J"⟩, 3) := ⟨⟨by decide +kernel, by decide +kernel⟩, List.mem_of_getElem? (i := 18) (by decide +kernel), List.mem_of_getElem? (i := 103) (by decide +kernel), List.mem_of_getElem? (i := 104) (by decide +kernel)⟩
theorem lw_p7 : lw_okq (⟨"RightDesk$Condition", "word", "(I)J"⟩, 5) := ⟨⟨by decide +kernel, by decide +kernel⟩, List.mem_of_getElem? (i := 109) (by decide +kernel), List.mem_of_getElem? (i := 107) (by decide +kernel), List.mem_of_getElem? (i := 108) (by decide +kernel)⟩
theorem lw_p8 : lw_okq (⟨"RightDesk$Condition", "setWord", "(IJ)V"⟩, 5) := ⟨⟨by decide +kernel, by decide +kernel⟩, List.mem_of_getElem? (i := 109) (by decide +kernel), List.mem_of_getElem? (i := 116) (by decide +kernel), List.mem_of_getElem? (i := 117) (by decide +kernel)⟩
theorem lw_p9 : lw_okq (⟨"RightDesk$ConditionBook", "canBe", "(IIII)Z"⟩, 3) := ⟨⟨by decide +kernel, by decide +kernel⟩, List.mem_of_getElem? (i := 18) (by decide +kernel), List.mem_of_getElem? (i := 124) (by decide +kernel), List.mem_of_getElem? (i := 125) (by decide +kernel)⟩
theorem lw_p10 : lw_okq (⟨"RightDesk$ConditionBook", "add", "(IIII)I"⟩, 3) := ⟨⟨by decide +kernel, by decide +kernel⟩, List.mem_of_getElem? (i := 18) (by decide +kernel), List.mem_of_getElem? (i := 128) (by decide +kernel), List.mem_of_getElem? (i := 129) (by decide +kernel)⟩
theorem lw_p11 : lw_okq (⟨"RightDesk$RuleBook", "add", "(IZLRightDesk$Condition;)I"⟩, 2) := ⟨⟨by decide +kernel, by decide +kernel⟩, List.mem_of_getElem? (i := 38) (by decide +kernel), List.mem_of_getElem? (i := 162) (by decide +kernel), List.mem_of_getElem? (i := 163) (by decide +kernel)⟩
theorem lw_p12 : lw_okq (⟨"RightDesk$RuleBook", "placeFor", "(LRightDesk$Rule;)I"⟩, 2) := ⟨⟨by decide +kernel, by decide +kernel⟩, List.mem_of_getElem? (i := 38) (by decide +kernel), List.mem_of_getElem? (i := 189) (by decide +kernel), List.mem_of_getElem? (i := 190) (by decide +kernel)⟩
theorem lw_p13 : lw_okq (⟨"RightDesk$RuleBook", "at", "(I)LRightDesk$Rule;"⟩, 2) := ⟨⟨by decide +kernel, by decide +kernel⟩, List.mem_of_getElem? (i := 38) (by decide +kernel), List.mem_of_getElem? (i := 193) (by decide +kernel), List.mem_of_getElem? (i := 194) (by decide +kernel)⟩
theorem lw_p14 : lw_okq (⟨"RightDesk$Rule", "goesBefore", "(LRightDesk$Rule;)Z"⟩, 4) := ⟨⟨by decide +kernel, by decide +kernel⟩, List.mem_of_getElem? (i := 166) (by decide +kernel), List.mem_of_getElem? (i := 197) (by decide +kernel), List.mem_of_getElem? (i := 198) (by decide +kernel)⟩
theorem lw_p15 : lw_okq (⟨"RightDesk$RuleBook", "placeOf", "(I)I"⟩, 2) := ⟨⟨by decide +kernel, by decide +kernel⟩, List.mem_of_getElem? (i := 38) (by decide +kernel), List.mem_of_getElem? (i := 205) (by decide +kernel), List.mem_of_getElem? (i := 206) (by decide +kernel)⟩
def lw_privs_1 : List (MethodName × Nat) := [(⟨"RightDesk$ConditionBook", "setMember", "(IIZ)Z"⟩, 3), (⟨"RightDesk$ConditionBook", "isMember", "(II)Z"⟩, 3), (⟨"RightDesk$ConditionBook", "workOutAgain", "(I)V"⟩, 3), (⟨"RightDesk$ConditionBook", "at", "(I)LRightDesk$Condition;"⟩, 3), (⟨"RightDesk$ConditionBook", "workOut", "(LRightDesk$Condition;I)J"⟩, 3), (⟨"RightDesk$ConditionBook", "putTogether", "(LRightDesk$Condition;I)J"⟩, 3), (⟨"RightDesk$ConditionBook", "wordOf", "(II)J"⟩, 3), (⟨"RightDesk$Condition", "word", "(I)J"⟩, 5), (⟨"RightDesk$Condition", "setWord", "(IJ)V"⟩, 5), (⟨"RightDesk$ConditionBook", "canBe", "(IIII)Z"⟩, 3), (⟨"RightDesk$ConditionBook", "add", "(IIII)I"⟩, 3), (⟨"RightDesk$RuleBook", "add", "(IZLRightDesk$Condition;)I"⟩, 2), (⟨"RightDesk$RuleBook", "placeFor", "(LRightDesk$Rule;)I"⟩, 2), (⟨"RightDesk$RuleBook", "at", "(I)LRightDesk$Rule;"⟩, 2), (⟨"RightDesk$Rule", "goesBefore", "(LRightDesk$Rule;)Z"⟩, 4), (⟨"RightDesk$RuleBook", "placeOf", "(I)I"⟩, 2)]
theorem lw_r1 : ∀ q ∈ lw_privs_1, lw_okq q := List.forall_mem_cons.mpr ⟨lw_p0, List.forall_mem_cons.mpr ⟨lw_p1, List.forall_mem_cons.mpr ⟨lw_p2, List.forall_mem_cons.mpr ⟨lw_p3, List.forall_mem_cons.mpr ⟨lw_p4, List.forall_mem_cons.mpr ⟨lw_p5, List.forall_mem_cons.mpr ⟨lw_p6, List.forall_mem_cons.mpr ⟨lw_p7, List.forall_mem_cons.mpr ⟨lw_p8, List.forall_mem_cons.mpr ⟨lw_p9, List.forall_mem_cons.mpr ⟨lw_p10, List.forall_mem_cons.mpr ⟨lw_p11, List.forall_mem_cons.mpr ⟨lw_p12, List.forall_mem_cons.mpr ⟨lw_p13, List.forall_mem_cons.mpr ⟨lw_p14, List.forall_mem_cons.mpr ⟨lw_p15, fun _ h => absurd h List.not_mem_nil⟩⟩⟩⟩⟩⟩⟩⟩⟩⟩⟩⟩⟩⟩⟩⟩
theorem lw_p16 : lw_okq (⟨"RightDesk$RuleBook", "remove", "(II)I"⟩, 2) := ⟨⟨by decide +kernel, by decide +kernel⟩, List.mem_of_getElem? (i := 38) (by decide +kernel), List.mem_of_getElem? (i := 209) (by decide +kernel), List.mem_of_getElem? (i := 210) (by decide +kernel)⟩
theorem lw_p17 : lw_okq (⟨"RightDesk$RuleBook", "deciderOf", "(I)LRightDesk$Rule;"⟩, 2) := ⟨⟨by decide +kernel, by decide +kernel⟩, List.mem_of_getElem? (i := 38) (by decide +kernel), List.mem_of_getElem? (i := 217) (by decide +kernel), List.mem_of_getElem? (i := 218) (by decide +kernel)⟩
theorem lw_p18 : lw_okq (⟨"RightDesk$Rule", "word", "(I)J"⟩, 4) := ⟨⟨by decide +kernel, by decide +kernel⟩, List.mem_of_getElem? (i := 166) (by decide +kernel), List.mem_of_getElem? (i := 221) (by decide +kernel), List.mem_of_getElem? (i := 222) (by decide +kernel)⟩
theorem lw_p19 : lw_okq (⟨"RightDesk$RuleBook", "decidedAt", "(II)J"⟩, 2) := ⟨⟨by decide +kernel, by decide +kernel⟩, List.mem_of_getElem? (i := 38) (by decide +kernel), List.mem_of_getElem? (i := 253) (by decide +kernel), List.mem_of_getElem? (i := 254) (by decide +kernel)⟩
theorem lw_p20 : lw_okq (⟨"RightDesk$RuleBook", "wordAt", "(II)J"⟩, 2) := ⟨⟨by decide +kernel, by decide +kernel⟩, List.mem_of_getElem? (i := 38) (by decide +kernel), List.mem_of_getElem? (i := 257) (by decide +kernel), List.mem_of_getElem? (i := 258) (by decide +kernel)⟩
theorem lw_p21 : lw_okq (⟨"RightDesk", "allowedIn", "(I)J"⟩, 2) := ⟨⟨by decide +kernel, by decide +kernel⟩, List.mem_of_getElem? (i := 10) (by decide +kernel), List.mem_of_getElem? (i := 267) (by decide +kernel), List.mem_of_getElem? (i := 268) (by decide +kernel)⟩
theorem lw_p22 : lw_okq (⟨"RightDesk$RuleBook", "allowedFrom", "(IJI)J"⟩, 2) := ⟨⟨by decide +kernel, by decide +kernel⟩, List.mem_of_getElem? (i := 38) (by decide +kernel), List.mem_of_getElem? (i := 271) (by decide +kernel), List.mem_of_getElem? (i := 272) (by decide +kernel)⟩
theorem lw_p23 : lw_okq (⟨"RightDesk$RuleBook", "turnedAt", "(II)J"⟩, 2) := ⟨⟨by decide +kernel, by decide +kernel⟩, List.mem_of_getElem? (i := 38) (by decide +kernel), List.mem_of_getElem? (i := 279) (by decide +kernel), List.mem_of_getElem? (i := 280) (by decide +kernel)⟩
theorem lw_p24 : lw_okq (⟨"RightDesk$RuleBook", "idleRank", "(ZJI)I"⟩, 2) := ⟨⟨by decide +kernel, by decide +kernel⟩, List.mem_of_getElem? (i := 38) (by decide +kernel), List.mem_of_getElem? (i := 289) (by decide +kernel), List.mem_of_getElem? (i := 290) (by decide +kernel)⟩
theorem lw_p25 : lw_okq (⟨"RightDesk$Rule", "rankBehind", "(Z)I"⟩, 4) := ⟨⟨by decide +kernel, by decide +kernel⟩, List.mem_of_getElem? (i := 166) (by decide +kernel), List.mem_of_getElem? (i := 293) (by decide +kernel), List.mem_of_getElem? (i := 294) (by decide +kernel)⟩
theorem lw_p26 : lw_okq (⟨"RightDeskModel", "make", "(I)V"⟩, 14) := ⟨⟨by decide +kernel, by decide +kernel⟩, List.mem_of_getElem? (i := 316) (by decide +kernel), List.mem_of_getElem? (i := 373) (by decide +kernel), List.mem_of_getElem? (i := 374) (by decide +kernel)⟩
theorem lw_p27 : lw_okq (⟨"RightDeskModel", "isSo", "(II)Z"⟩, 14) := ⟨⟨by decide +kernel, by decide +kernel⟩, List.mem_of_getElem? (i := 316) (by decide +kernel), List.mem_of_getElem? (i := 377) (by decide +kernel), List.mem_of_getElem? (i := 378) (by decide +kernel)⟩
theorem lw_p28 : lw_okq (⟨"RightDeskModel", "holds", "(II)Z"⟩, 14) := ⟨⟨by decide +kernel, by decide +kernel⟩, List.mem_of_getElem? (i := 316) (by decide +kernel), List.mem_of_getElem? (i := 393) (by decide +kernel), List.mem_of_getElem? (i := 394) (by decide +kernel)⟩
theorem lw_p29 : lw_okq (⟨"RightDeskModel", "isGood", "(IIII)Z"⟩, 14) := ⟨⟨by decide +kernel, by decide +kernel⟩, List.mem_of_getElem? (i := 316) (by decide +kernel), List.mem_of_getElem? (i := 401) (by decide +kernel), List.mem_of_getElem? (i := 402) (by decide +kernel)⟩
theorem lw_p30 : lw_okq (⟨"RightDeskModel", "isCondition", "(I)Z"⟩, 14) := ⟨⟨by decide +kernel, by decide +kernel⟩, List.mem_of_getElem? (i := 316) (by decide +kernel), List.mem_of_getElem? (i := 405) (by decide +kernel), List.mem_of_getElem? (i := 406) (by decide +kernel)⟩
theorem lw_p31 : lw_okq (⟨"RightDeskModel", "isRule", "(I)Z"⟩, 14) := ⟨⟨by decide +kernel, by decide +kernel⟩, List.mem_of_getElem? (i := 316) (by decide +kernel), List.mem_of_getElem? (i := 417) (by decide +kernel), List.mem_of_getElem? (i := 418) (by decide +kernel)⟩
def lw_privs_2 : List (MethodName × Nat) := [(⟨"RightDesk$RuleBook", "remove", "(II)I"⟩, 2), (⟨"RightDesk$RuleBook", "deciderOf", "(I)LRightDesk$Rule;"⟩, 2), (⟨"RightDesk$Rule", "word", "(I)J"⟩, 4), (⟨"RightDesk$RuleBook", "decidedAt", "(II)J"⟩, 2), (⟨"RightDesk$RuleBook", "wordAt", "(II)J"⟩, 2), (⟨"RightDesk", "allowedIn", "(I)J"⟩, 2), (⟨"RightDesk$RuleBook", "allowedFrom", "(IJI)J"⟩, 2), (⟨"RightDesk$RuleBook", "turnedAt", "(II)J"⟩, 2), (⟨"RightDesk$RuleBook", "idleRank", "(ZJI)I"⟩, 2), (⟨"RightDesk$Rule", "rankBehind", "(Z)I"⟩, 4), (⟨"RightDeskModel", "make", "(I)V"⟩, 14), (⟨"RightDeskModel", "isSo", "(II)Z"⟩, 14), (⟨"RightDeskModel", "holds", "(II)Z"⟩, 14), (⟨"RightDeskModel", "isGood", "(IIII)Z"⟩, 14), (⟨"RightDeskModel", "isCondition", "(I)Z"⟩, 14), (⟨"RightDeskModel", "isRule", "(I)Z"⟩, 14)]
theorem lw_r2 : ∀ q ∈ lw_privs_2, lw_okq q := List.forall_mem_cons.mpr ⟨lw_p16, List.forall_mem_cons.mpr ⟨lw_p17, List.forall_mem_cons.mpr ⟨lw_p18, List.forall_mem_cons.mpr ⟨lw_p19, List.forall_mem_cons.mpr ⟨lw_p20, List.forall_mem_cons.mpr ⟨lw_p21, List.forall_mem_cons.mpr ⟨lw_p22, List.forall_mem_cons.mpr ⟨lw_p23, List.forall_mem_cons.mpr ⟨lw_p24, List.forall_mem_cons.mpr ⟨lw_p25, List.forall_mem_cons.mpr ⟨lw_p26, List.forall_mem_cons.mpr ⟨lw_p27, List.forall_mem_cons.mpr ⟨lw_p28, List.forall_mem_cons.mpr ⟨lw_p29, List.forall_mem_cons.mpr ⟨lw_p30, List.forall_mem_cons.mpr ⟨lw_p31, fun _ h => absurd h List.not_mem_nil⟩⟩⟩⟩⟩⟩⟩⟩⟩⟩⟩⟩⟩⟩⟩⟩
theorem lw_p32 : lw_okq (⟨"RightDeskModel", "know", "()V"⟩, 14) := ⟨⟨by decide +kernel, by decide +kernel⟩, List.mem_of_getElem? (i := 316) (by decide +kernel), List.mem_of_getElem? (i := 425) (by decide +kernel), List.mem_of_getElem? (i := 426) (by decide +kernel)⟩
theorem lw_p33 : lw_okq (⟨"RightDeskModel", "decide", "(II)I"⟩, 14) := ⟨⟨by decide +kernel, by decide +kernel⟩, List.mem_of_getElem? (i := 316) (by decide +kernel), List.mem_of_getElem? (i := 429) (by decide +kernel), List.mem_of_getElem? (i := 430) (by decide +kernel)⟩
theorem lw_p34 : lw_okq (⟨"RightDeskModel", "firstRank", "(II)I"⟩, 14) := ⟨⟨by decide +kernel, by decide +kernel⟩, List.mem_of_getElem? (i := 316) (by decide +kernel), List.mem_of_getElem? (i := 433) (by decide +kernel), List.mem_of_getElem? (i := 434) (by decide +kernel)⟩
theorem lw_p35 : lw_okq (⟨"RightDeskModel", "isAllowed", "(I)Z"⟩, 14) := ⟨⟨by decide +kernel, by decide +kernel⟩, List.mem_of_getElem? (i := 316) (by decide +kernel), List.mem_of_getElem? (i := 437) (by decide +kernel), List.mem_of_getElem? (i := 438) (by decide +kernel)⟩
theorem lw_p36 : lw_okq (⟨"RightDeskModel", "wouldDecide", "(IZI)Z"⟩, 14) := ⟨⟨by decide +kernel, by decide +kernel⟩, List.mem_of_getElem? (i := 316) (by decide +kernel), List.mem_of_getElem? (i := 469) (by decide +kernel), List.mem_of_getElem? (i := 470) (by decide +kernel)⟩
def lw_privs_3 : List (MethodName × Nat) := [(⟨"RightDeskModel", "know", "()V"⟩, 14), (⟨"RightDeskModel", "decide", "(II)I"⟩, 14), (⟨"RightDeskModel", "firstRank", "(II)I"⟩, 14), (⟨"RightDeskModel", "isAllowed", "(I)Z"⟩, 14), (⟨"RightDeskModel", "wouldDecide", "(IZI)Z"⟩, 14)]
theorem lw_r3 : ∀ q ∈ lw_privs_3, lw_okq q := List.forall_mem_cons.mpr ⟨lw_p32, List.forall_mem_cons.mpr ⟨lw_p33, List.forall_mem_cons.mpr ⟨lw_p34, List.forall_mem_cons.mpr ⟨lw_p35, List.forall_mem_cons.mpr ⟨lw_p36, fun _ h => absurd h List.not_mem_nil⟩⟩⟩⟩⟩
def lw_privs : List (MethodName × Nat) := lw_privs_1 ++ (lw_privs_2 ++ (lw_privs_3))
def lw_tbl : List Cond := k2_sels lw_privs ++ tables_1
theorem lw_privs_ok : ∀ q ∈ lw_privs, lw_okq q := by
  show ∀ q ∈ lw_privs_1 ++ (lw_privs_2 ++ (lw_privs_3)), lw_okq q
  exact List.forall_mem_append.mpr ⟨lw_r1, List.forall_mem_append.mpr ⟨lw_r2, lw_r3⟩⟩
def R_De : String := "RightDesk"
def R_Co : String := "RightDesk$Condition"
def R_Cb : String := "RightDesk$ConditionBook"
def R_Ru : String := "RightDesk$Rule"
def R_Rb : String := "RightDesk$RuleBook"
def R_Mo : String := "RightDeskModel"
def R_La : String := "RightDeskLaw"
def R_Lo : String := "java/lang/Long"
def T_Co : u_T := fun k => match k with
  | 0 => ("RightDesk$Condition", "kind", "I", true)
  | 1 => ("RightDesk$Condition", "a", "I", true)
  | 2 => ("RightDesk$Condition", "b", "I", true)
  | 3 => ("RightDesk$Condition", "c", "I", true)
  | _ => ("RightDesk$Condition", "words", "[J", true)
def ty_Co : Nat → FieldType := fun k => match k with
  | 0 => .int
  | 1 => .int
  | 2 => .int
  | 3 => .int
  | _ => .array .long
theorem nm_Co : ∀ a, a < 5 → ∀ b, b < 5 → a ≠ b → (T_Co a).2.1 ≠ (T_Co b).2.1 := by decide +kernel
theorem tyok_Co : ∀ k, k < 5 → parseFieldDescriptor (T_Co k).2.2.1 = some (ty_Co k) := by decide +kernel
def T_Cb : u_T := fun k => match k with
  | 0 => ("RightDesk$ConditionBook", "made", "[LRightDesk$Condition;", true)
  | 1 => ("RightDesk$ConditionBook", "members", "[Z", true)
  | _ => ("RightDesk$ConditionBook", "count", "I", false)
def ty_Cb : Nat → FieldType := fun k => match k with
  | 0 => .array (.object "RightDesk$Condition")
  | 1 => .array .boolean
  | _ => .int
theorem nm_Cb : ∀ a, a < 3 → ∀ b, b < 3 → a ≠ b → (T_Cb a).2.1 ≠ (T_Cb b).2.1 := by decide +kernel
theorem tyok_Cb : ∀ k, k < 3 → parseFieldDescriptor (T_Cb k).2.2.1 = some (ty_Cb k) := by decide +kernel
def T_Ru : u_T := fun k => match k with
  | 0 => ("RightDesk$Rule", "rank", "I", true)
  | 1 => ("RightDesk$Rule", "denies", "Z", true)
  | 2 => ("RightDesk$Rule", "condition", "LRightDesk$Condition;", true)
  | _ => ("RightDesk$Rule", "number", "I", false)
def ty_Ru : Nat → FieldType := fun k => match k with
  | 0 => .int
  | 1 => .boolean
  | 2 => .object "RightDesk$Condition"
  | _ => .int
theorem nm_Ru : ∀ a, a < 4 → ∀ b, b < 4 → a ≠ b → (T_Ru a).2.1 ≠ (T_Ru b).2.1 := by decide +kernel
theorem tyok_Ru : ∀ k, k < 4 → parseFieldDescriptor (T_Ru k).2.2.1 = some (ty_Ru k) := by decide +kernel
def T_Rb : u_T := fun k => match k with
  | 0 => ("RightDesk$RuleBook", "row", "[LRightDesk$Rule;", true)
  | _ => ("RightDesk$RuleBook", "count", "I", false)
def ty_Rb : Nat → FieldType := fun k => match k with
  | 0 => .array (.object "RightDesk$Rule")
  | _ => .int
theorem nm_Rb : ∀ a, a < 2 → ∀ b, b < 2 → a ≠ b → (T_Rb a).2.1 ≠ (T_Rb b).2.1 := by decide +kernel
theorem tyok_Rb : ∀ k, k < 2 → parseFieldDescriptor (T_Rb k).2.2.1 = some (ty_Rb k) := by decide +kernel
def T_De : u_T := fun k => match k with
  | 0 => ("RightDesk", "conditionBook", "LRightDesk$ConditionBook;", true)
  | _ => ("RightDesk", "ruleBook", "LRightDesk$RuleBook;", true)
def ty_De : Nat → FieldType := fun k => match k with
  | 0 => .object "RightDesk$ConditionBook"
  | _ => .object "RightDesk$RuleBook"
theorem nm_De : ∀ a, a < 2 → ∀ b, b < 2 → a ≠ b → (T_De a).2.1 ≠ (T_De b).2.1 := by decide +kernel
theorem tyok_De : ∀ k, k < 2 → parseFieldDescriptor (T_De k).2.2.1 = some (ty_De k) := by decide +kernel
def T_Mo : u_T := fun k => match k with
  | 0 => ("RightDeskModel", "code", "I", false)
  | 1 => ("RightDeskModel", "groups", "[I", true)
  | 2 => ("RightDeskModel", "conditions", "I", false)
  | 3 => ("RightDeskModel", "kind", "[I", true)
  | 4 => ("RightDeskModel", "first", "[I", true)
  | 5 => ("RightDeskModel", "second", "[I", true)
  | 6 => ("RightDeskModel", "third", "[I", true)
  | 7 => ("RightDeskModel", "bits", "[I", true)
  | 8 => ("RightDeskModel", "rules", "I", false)
  | 9 => ("RightDeskModel", "rank", "[I", true)
  | 10 => ("RightDeskModel", "denies", "[Z", true)
  | 11 => ("RightDeskModel", "condition", "[I", true)
  | 12 => ("RightDeskModel", "decider", "[I", true)
  | _ => ("RightDeskModel", "known", "Z", false)
def ty_Mo : Nat → FieldType := fun k => match k with
  | 0 => .int
  | 1 => .array .int
  | 2 => .int
  | 3 => .array .int
  | 4 => .array .int
  | 5 => .array .int
  | 6 => .array .int
  | 7 => .array .int
  | 8 => .int
  | 9 => .array .int
  | 10 => .array .boolean
  | 11 => .array .int
  | 12 => .array .int
  | _ => .boolean
theorem nm_Mo : ∀ a, a < 14 → ∀ b, b < 14 → a ≠ b → (T_Mo a).2.1 ≠ (T_Mo b).2.1 := by decide +kernel
theorem tyok_Mo : ∀ k, k < 14 → parseFieldDescriptor (T_Mo k).2.2.1 = some (ty_Mo k) := by decide +kernel
abbrev vwCl : List vw_C := [(R_Co, T_Co, 5), (R_Cb, T_Cb, 3), (R_Ru, T_Ru, 4), (R_Rb, T_Rb, 2), (R_De, T_De, 2), (R_Mo, T_Mo, 14)]
abbrev b_Co_init : ByteArray := prog_2_method_1_code
def y_Co_init : MethodName := ⟨R_Co, "<init>", "(IIII)V"⟩
abbrev b_Co_word : ByteArray := prog_2_method_2_code
def y_Co_word : MethodName := ⟨R_Co, "word", "(I)J"⟩
abbrev b_Co_setWord : ByteArray := prog_2_method_3_code
def y_Co_setWord : MethodName := ⟨R_Co, "setWord", "(IJ)V"⟩
abbrev b_Cb_init : ByteArray := prog_3_method_1_code
def y_Cb_init : MethodName := ⟨R_Cb, "<init>", "()V"⟩
abbrev b_Cb_at : ByteArray := prog_3_method_2_code
def y_Cb_at : MethodName := ⟨R_Cb, "at", "(I)LRightDesk$Condition;"⟩
abbrev b_Cb_canBe : ByteArray := prog_3_method_3_code
def y_Cb_canBe : MethodName := ⟨R_Cb, "canBe", "(IIII)Z"⟩
abbrev b_Cb_add : ByteArray := prog_3_method_4_code
def y_Cb_add : MethodName := ⟨R_Cb, "add", "(IIII)I"⟩
abbrev b_Cb_setMember : ByteArray := prog_3_method_5_code
def y_Cb_setMember : MethodName := ⟨R_Cb, "setMember", "(IIZ)Z"⟩
abbrev b_Cb_isMember : ByteArray := prog_3_method_6_code
def y_Cb_isMember : MethodName := ⟨R_Cb, "isMember", "(II)Z"⟩
abbrev b_Cb_workOutAgain : ByteArray := prog_3_method_7_code
def y_Cb_workOutAgain : MethodName := ⟨R_Cb, "workOutAgain", "(I)V"⟩
abbrev b_Cb_workOut : ByteArray := prog_3_method_8_code
def y_Cb_workOut : MethodName := ⟨R_Cb, "workOut", "(LRightDesk$Condition;I)J"⟩
abbrev b_Cb_predicateIn : ByteArray := prog_3_method_9_code
def y_Cb_predicateIn : MethodName := ⟨R_Cb, "predicateIn", "(II)J"⟩
abbrev b_Cb_putTogether : ByteArray := prog_3_method_10_code
def y_Cb_putTogether : MethodName := ⟨R_Cb, "putTogether", "(LRightDesk$Condition;I)J"⟩
abbrev b_Cb_twoOfThree : ByteArray := prog_3_method_11_code
def y_Cb_twoOfThree : MethodName := ⟨R_Cb, "twoOfThree", "(JJJ)J"⟩
abbrev b_Cb_wordOf : ByteArray := prog_3_method_12_code
def y_Cb_wordOf : MethodName := ⟨R_Cb, "wordOf", "(II)J"⟩
abbrev b_Ru_init : ByteArray := prog_4_method_1_code
def y_Ru_init : MethodName := ⟨R_Ru, "<init>", "(IIZLRightDesk$Condition;)V"⟩
abbrev b_Ru_word : ByteArray := prog_4_method_2_code
def y_Ru_word : MethodName := ⟨R_Ru, "word", "(I)J"⟩
abbrev b_Ru_goesBefore : ByteArray := prog_4_method_3_code
def y_Ru_goesBefore : MethodName := ⟨R_Ru, "goesBefore", "(LRightDesk$Rule;)Z"⟩
abbrev b_Ru_rankBehind : ByteArray := prog_4_method_4_code
def y_Ru_rankBehind : MethodName := ⟨R_Ru, "rankBehind", "(Z)I"⟩
abbrev b_Rb_init : ByteArray := prog_5_method_1_code
def y_Rb_init : MethodName := ⟨R_Rb, "<init>", "()V"⟩
abbrev b_Rb_at : ByteArray := prog_5_method_2_code
def y_Rb_at : MethodName := ⟨R_Rb, "at", "(I)LRightDesk$Rule;"⟩
abbrev b_Rb_placeOf : ByteArray := prog_5_method_3_code
def y_Rb_placeOf : MethodName := ⟨R_Rb, "placeOf", "(I)I"⟩
abbrev b_Rb_add : ByteArray := prog_5_method_4_code
def y_Rb_add : MethodName := ⟨R_Rb, "add", "(IZLRightDesk$Condition;)I"⟩
abbrev b_Rb_placeFor : ByteArray := prog_5_method_5_code
def y_Rb_placeFor : MethodName := ⟨R_Rb, "placeFor", "(LRightDesk$Rule;)I"⟩
abbrev b_Rb_remove : ByteArray := prog_5_method_6_code
def y_Rb_remove : MethodName := ⟨R_Rb, "remove", "(II)I"⟩
abbrev b_Rb_deciderOf : ByteArray := prog_5_method_7_code
def y_Rb_deciderOf : MethodName := ⟨R_Rb, "deciderOf", "(I)LRightDesk$Rule;"⟩
abbrev b_Rb_allowedFrom : ByteArray := prog_5_method_8_code
def y_Rb_allowedFrom : MethodName := ⟨R_Rb, "allowedFrom", "(IJI)J"⟩
abbrev b_Rb_decidedAt : ByteArray := prog_5_method_9_code
def y_Rb_decidedAt : MethodName := ⟨R_Rb, "decidedAt", "(II)J"⟩
abbrev b_Rb_wordAt : ByteArray := prog_5_method_10_code
def y_Rb_wordAt : MethodName := ⟨R_Rb, "wordAt", "(II)J"⟩
abbrev b_Rb_turnedAt : ByteArray := prog_5_method_11_code
def y_Rb_turnedAt : MethodName := ⟨R_Rb, "turnedAt", "(II)J"⟩
abbrev b_Rb_idleRank : ByteArray := prog_5_method_12_code
def y_Rb_idleRank : MethodName := ⟨R_Rb, "idleRank", "(ZJI)I"⟩
abbrev b_De_init : ByteArray := prog_1_method_1_code
def y_De_init : MethodName := ⟨R_De, "<init>", "()V"⟩
abbrev b_De_member : ByteArray := prog_1_method_2_code
def y_De_member : MethodName := ⟨R_De, "member", "(IIZ)I"⟩
abbrev b_De_condition : ByteArray := prog_1_method_3_code
def y_De_condition : MethodName := ⟨R_De, "condition", "(IIII)I"⟩
abbrev b_De_rule : ByteArray := prog_1_method_4_code
def y_De_rule : MethodName := ⟨R_De, "rule", "(IZI)I"⟩
abbrev b_De_drop : ByteArray := prog_1_method_5_code
def y_De_drop : MethodName := ⟨R_De, "drop", "(I)I"⟩
abbrev b_De_may : ByteArray := prog_1_method_6_code
def y_De_may : MethodName := ⟨R_De, "may", "(IIIIII)I"⟩
abbrev b_De_asks : ByteArray := prog_1_method_7_code
def y_De_asks : MethodName := ⟨R_De, "asks", "(I)I"⟩
abbrev b_De_ask : ByteArray := prog_1_method_8_code
def y_De_ask : MethodName := ⟨R_De, "ask", "(II)I"⟩
abbrev b_De_within : ByteArray := prog_1_method_9_code
def y_De_within : MethodName := ⟨R_De, "within", "(II)I"⟩
abbrev b_De_decides : ByteArray := prog_1_method_10_code
def y_De_decides : MethodName := ⟨R_De, "decides", "(I)I"⟩
abbrev b_De_sees : ByteArray := prog_1_method_11_code
def y_De_sees : MethodName := ⟨R_De, "sees", "(II)I"⟩
abbrev b_De_matters : ByteArray := prog_1_method_12_code
def y_De_matters : MethodName := ⟨R_De, "matters", "(I)I"⟩
abbrev b_De_idle : ByteArray := prog_1_method_13_code
def y_De_idle : MethodName := ⟨R_De, "idle", "(ZI)I"⟩
abbrev b_De_apart : ByteArray := prog_1_method_14_code
def y_De_apart : MethodName := ⟨R_De, "apart", "(II)I"⟩
abbrev b_De_allowed : ByteArray := prog_1_method_15_code
def y_De_allowed : MethodName := ⟨R_De, "allowed", "()I"⟩
abbrev b_De_conditions : ByteArray := prog_1_method_16_code
def y_De_conditions : MethodName := ⟨R_De, "conditions", "()I"⟩
abbrev b_De_rules : ByteArray := prog_1_method_17_code
def y_De_rules : MethodName := ⟨R_De, "rules", "()I"⟩
abbrev b_De_allowedIn : ByteArray := prog_1_method_18_code
def y_De_allowedIn : MethodName := ⟨R_De, "allowedIn", "(I)J"⟩
abbrev b_De_isBelow : ByteArray := prog_1_method_19_code
def y_De_isBelow : MethodName := ⟨R_De, "isBelow", "(II)Z"⟩
abbrev b_De_versionsFromTo : ByteArray := prog_1_method_20_code
def y_De_versionsFromTo : MethodName := ⟨R_De, "versionsFromTo", "(II)J"⟩
abbrev b_De_bitPlace : ByteArray := prog_1_method_21_code
def y_De_bitPlace : MethodName := ⟨R_De, "bitPlace", "(JI)I"⟩
abbrev b_Mo_init : ByteArray := prog_7_method_1_code
def y_Mo_init : MethodName := ⟨R_Mo, "<init>", "()V"⟩
abbrev b_Mo_isIn : ByteArray := prog_7_method_3_code
def y_Mo_isIn : MethodName := ⟨R_Mo, "isIn", "(III)Z"⟩
abbrev b_Mo_isCondition : ByteArray := prog_7_method_4_code
def y_Mo_isCondition : MethodName := ⟨R_Mo, "isCondition", "(I)Z"⟩
abbrev b_Mo_isRule : ByteArray := prog_7_method_5_code
def y_Mo_isRule : MethodName := ⟨R_Mo, "isRule", "(I)Z"⟩
abbrev b_Mo_personOf : ByteArray := prog_7_method_6_code
def y_Mo_personOf : MethodName := ⟨R_Mo, "personOf", "(I)I"⟩
abbrev b_Mo_graphOf : ByteArray := prog_7_method_7_code
def y_Mo_graphOf : MethodName := ⟨R_Mo, "graphOf", "(I)I"⟩
abbrev b_Mo_predicateOf : ByteArray := prog_7_method_8_code
def y_Mo_predicateOf : MethodName := ⟨R_Mo, "predicateOf", "(I)I"⟩
abbrev b_Mo_classOf : ByteArray := prog_7_method_9_code
def y_Mo_classOf : MethodName := ⟨R_Mo, "classOf", "(I)I"⟩
abbrev b_Mo_holds : ByteArray := prog_7_method_10_code
def y_Mo_holds : MethodName := ⟨R_Mo, "holds", "(II)Z"⟩
abbrev b_Mo_isSo : ByteArray := prog_7_method_11_code
def y_Mo_isSo : MethodName := ⟨R_Mo, "isSo", "(II)Z"⟩
abbrev b_Mo_make : ByteArray := prog_7_method_12_code
def y_Mo_make : MethodName := ⟨R_Mo, "make", "(I)V"⟩
abbrev b_Mo_member : ByteArray := prog_7_method_13_code
def y_Mo_member : MethodName := ⟨R_Mo, "member", "(IIZ)I"⟩
abbrev b_Mo_isGood : ByteArray := prog_7_method_14_code
def y_Mo_isGood : MethodName := ⟨R_Mo, "isGood", "(IIII)Z"⟩
abbrev b_Mo_condition : ByteArray := prog_7_method_15_code
def y_Mo_condition : MethodName := ⟨R_Mo, "condition", "(IIII)I"⟩
abbrev b_Mo_rule : ByteArray := prog_7_method_16_code
def y_Mo_rule : MethodName := ⟨R_Mo, "rule", "(IZI)I"⟩
abbrev b_Mo_drop : ByteArray := prog_7_method_17_code
def y_Mo_drop : MethodName := ⟨R_Mo, "drop", "(I)I"⟩
abbrev b_Mo_firstRank : ByteArray := prog_7_method_18_code
def y_Mo_firstRank : MethodName := ⟨R_Mo, "firstRank", "(II)I"⟩
abbrev b_Mo_decide : ByteArray := prog_7_method_19_code
def y_Mo_decide : MethodName := ⟨R_Mo, "decide", "(II)I"⟩
abbrev b_Mo_isAllowed : ByteArray := prog_7_method_20_code
def y_Mo_isAllowed : MethodName := ⟨R_Mo, "isAllowed", "(I)Z"⟩
abbrev b_Mo_know : ByteArray := prog_7_method_21_code
def y_Mo_know : MethodName := ⟨R_Mo, "know", "()V"⟩
abbrev b_Mo_may : ByteArray := prog_7_method_22_code
def y_Mo_may : MethodName := ⟨R_Mo, "may", "(IIIIII)I"⟩
abbrev b_Mo_asks : ByteArray := prog_7_method_23_code
def y_Mo_asks : MethodName := ⟨R_Mo, "asks", "(I)I"⟩
abbrev b_Mo_ask : ByteArray := prog_7_method_24_code
def y_Mo_ask : MethodName := ⟨R_Mo, "ask", "(II)I"⟩
abbrev b_Mo_within : ByteArray := prog_7_method_25_code
def y_Mo_within : MethodName := ⟨R_Mo, "within", "(II)I"⟩
abbrev b_Mo_decides : ByteArray := prog_7_method_26_code
def y_Mo_decides : MethodName := ⟨R_Mo, "decides", "(I)I"⟩
abbrev b_Mo_sees : ByteArray := prog_7_method_27_code
def y_Mo_sees : MethodName := ⟨R_Mo, "sees", "(II)I"⟩
abbrev b_Mo_matters : ByteArray := prog_7_method_28_code
def y_Mo_matters : MethodName := ⟨R_Mo, "matters", "(I)I"⟩
abbrev b_Mo_wouldDecide : ByteArray := prog_7_method_29_code
def y_Mo_wouldDecide : MethodName := ⟨R_Mo, "wouldDecide", "(IZI)Z"⟩
abbrev b_Mo_idle : ByteArray := prog_7_method_30_code
def y_Mo_idle : MethodName := ⟨R_Mo, "idle", "(ZI)I"⟩
abbrev b_Mo_apart : ByteArray := prog_7_method_31_code
def y_Mo_apart : MethodName := ⟨R_Mo, "apart", "(II)I"⟩
abbrev b_Mo_allowed : ByteArray := prog_7_method_32_code
def y_Mo_allowed : MethodName := ⟨R_Mo, "allowed", "()I"⟩
abbrev b_Mo_conditions : ByteArray := prog_7_method_33_code
def y_Mo_conditions : MethodName := ⟨R_Mo, "conditions", "()I"⟩
abbrev b_Mo_rules : ByteArray := prog_7_method_34_code
def y_Mo_rules : MethodName := ⟨R_Mo, "rules", "()I"⟩
abbrev b_Lo_bitCount : ByteArray := prog_8_method_50_code
def y_Lo_bitCount : MethodName := ⟨R_Lo, "bitCount", "(J)I"⟩
/-- the words that every contract has: those of the tables that last -/
def AW : List Cond := lw_tbl.filter goodWord
theorem aw_t {w : Cond} (i : Nat) (h : tables_1[i]? = some w) (g : goodWord w = true) : w ∈ AW := List.mem_filter.mpr ⟨List.mem_append_right _ (List.mem_of_getElem? h), g⟩
theorem aw_s {w : Cond} (i : Nat) (h : (k2_sels lw_privs)[i]? = some w) (g : goodWord w = true) : w ∈ AW := List.mem_filter.mpr ⟨List.mem_append_left _ (List.mem_of_getElem? h), g⟩
theorem in_Co : ∀ w ∈ u_ws R_Co T_Co 5, w ∈ AW := by
  intro w hw
  obtain ⟨k, hk, rfl⟩ := List.mem_map.mp hw
  have hk : k < 5 := List.mem_range.mp hk
  rcases (show k = 0 ∨ k = 1 ∨ k = 2 ∨ k = 3 ∨ k = 4 by omega) with rfl | rfl | rfl | rfl | rfl
  · exact aw_t 144 (by decide +kernel) (by decide +kernel)
  · exact aw_t 146 (by decide +kernel) (by decide +kernel)
  · exact aw_t 148 (by decide +kernel) (by decide +kernel)
  · exact aw_t 150 (by decide +kernel) (by decide +kernel)
  · exact aw_t 152 (by decide +kernel) (by decide +kernel)
theorem in_Cb : ∀ w ∈ u_ws R_Cb T_Cb 3, w ∈ AW := by
  intro w hw
  obtain ⟨k, hk, rfl⟩ := List.mem_map.mp hw
  have hk : k < 3 := List.mem_range.mp hk
  rcases (show k = 0 ∨ k = 1 ∨ k = 2 by omega) with rfl | rfl | rfl
  · exact aw_t 29 (by decide +kernel) (by decide +kernel)
  · exact aw_t 31 (by decide +kernel) (by decide +kernel)
  · exact aw_t 33 (by decide +kernel) (by decide +kernel)
theorem in_Ru : ∀ w ∈ u_ws R_Ru T_Ru 4, w ∈ AW := by
  intro w hw
  obtain ⟨k, hk, rfl⟩ := List.mem_map.mp hw
  have hk : k < 4 := List.mem_range.mp hk
  rcases (show k = 0 ∨ k = 1 ∨ k = 2 ∨ k = 3 by omega) with rfl | rfl | rfl | rfl
  · exact aw_t 179 (by decide +kernel) (by decide +kernel)
  · exact aw_t 181 (by decide +kernel) (by decide +kernel)
  · exact aw_t 183 (by decide +kernel) (by decide +kernel)
  · exact aw_t 185 (by decide +kernel) (by decide +kernel)
theorem in_Rb : ∀ w ∈ u_ws R_Rb T_Rb 2, w ∈ AW := by
  intro w hw
  obtain ⟨k, hk, rfl⟩ := List.mem_map.mp hw
  have hk : k < 2 := List.mem_range.mp hk
  rcases (show k = 0 ∨ k = 1 by omega) with rfl | rfl
  · exact aw_t 48 (by decide +kernel) (by decide +kernel)
  · exact aw_t 50 (by decide +kernel) (by decide +kernel)
theorem in_De : ∀ w ∈ u_ws R_De T_De 2, w ∈ AW := by
  intro w hw
  obtain ⟨k, hk, rfl⟩ := List.mem_map.mp hw
  have hk : k < 2 := List.mem_range.mp hk
  rcases (show k = 0 ∨ k = 1 by omega) with rfl | rfl
  · exact aw_t 55 (by decide +kernel) (by decide +kernel)
  · exact aw_t 57 (by decide +kernel) (by decide +kernel)
theorem in_Mo : ∀ w ∈ u_ws R_Mo T_Mo 14, w ∈ AW := by
  intro w hw
  obtain ⟨k, hk, rfl⟩ := List.mem_map.mp hw
  have hk : k < 14 := List.mem_range.mp hk
  rcases (show k = 0 ∨ k = 1 ∨ k = 2 ∨ k = 3 ∨ k = 4 ∨ k = 5 ∨ k = 6 ∨ k = 7 ∨ k = 8 ∨ k = 9 ∨ k = 10 ∨ k = 11 ∨ k = 12 ∨ k = 13 by omega) with rfl | rfl | rfl | rfl | rfl | rfl | rfl | rfl | rfl | rfl | rfl | rfl | rfl | rfl
  · exact aw_t 335 (by decide +kernel) (by decide +kernel)
  · exact aw_t 337 (by decide +kernel) (by decide +kernel)
  · exact aw_t 339 (by decide +kernel) (by decide +kernel)
  · exact aw_t 341 (by decide +kernel) (by decide +kernel)
  · exact aw_t 343 (by decide +kernel) (by decide +kernel)
  · exact aw_t 345 (by decide +kernel) (by decide +kernel)
  · exact aw_t 347 (by decide +kernel) (by decide +kernel)
  · exact aw_t 349 (by decide +kernel) (by decide +kernel)
  · exact aw_t 351 (by decide +kernel) (by decide +kernel)
  · exact aw_t 353 (by decide +kernel) (by decide +kernel)
  · exact aw_t 355 (by decide +kernel) (by decide +kernel)
  · exact aw_t 357 (by decide +kernel) (by decide +kernel)
  · exact aw_t 359 (by decide +kernel) (by decide +kernel)
  · exact aw_t 361 (by decide +kernel) (by decide +kernel)
