def RX0 : String := "GateGuards$Gate"
def TX0 : u_T := fun k => match k with
  | 0 => ("GateGuards$Gate", "guards", "[LGateGuards$Guard;", true)
  | 1 => ("GateGuards$Gate", "guardCount", "I", false)
  | 2 => ("GateGuards$Gate", "sets", "[I", true)
  | 3 => ("GateGuards$Gate", "friends", "[Z", true)
  | _ => ("GateGuards$Gate", "visitorCount", "I", false)
def tyX0 : Nat → FieldType := fun k => match k with
  | 0 => .array (.object "GateGuards$Guard")
  | 1 => .int
  | 2 => .array .int
  | 3 => .array .boolean
  | _ => .int
abbrev wsX00 : List Cond := u_ws RX0 TX0 5
theorem nmX0 : ∀ a, a < 5 → ∀ b, b < 5 → a ≠ b → (TX0 a).2.1 ≠ (TX0 b).2.1 := by decide +kernel
theorem tyX0_ok : ∀ k, k < 5 → parseFieldDescriptor (TX0 k).2.2.1 = some (tyX0 k) := by decide +kernel
abbrev cX0_init : ByteArray := prog_2_method_1_code
def yX0_init : MethodName := ⟨RX0, "<init>", "()V"⟩
abbrev cX0_copyFrom : ByteArray := prog_2_method_2_code
def yX0_copyFrom : MethodName := ⟨RX0, "copyFrom", "(LGateGuards$Gate;)V"⟩
abbrev cX0_hasGuard : ByteArray := prog_2_method_3_code
def yX0_hasGuard : MethodName := ⟨RX0, "hasGuard", "(I)Z"⟩
abbrev cX0_hasVisitor : ByteArray := prog_2_method_4_code
def yX0_hasVisitor : MethodName := ⟨RX0, "hasVisitor", "(I)Z"⟩
abbrev cX0_addGuard : ByteArray := prog_2_method_5_code
def yX0_addGuard : MethodName := ⟨RX0, "addGuard", "(I)I"⟩
abbrev cX0_addVisitor : ByteArray := prog_2_method_6_code
def yX0_addVisitor : MethodName := ⟨RX0, "addVisitor", "(IZ)I"⟩
abbrev cX0_removeVisitor : ByteArray := prog_2_method_7_code
def yX0_removeVisitor : MethodName := ⟨RX0, "removeVisitor", "(I)I"⟩
abbrev cX0_visitorWith : ByteArray := prog_2_method_8_code
def yX0_visitorWith : MethodName := ⟨RX0, "visitorWith", "(I)I"⟩
abbrev cX0_placeAmongLike : ByteArray := prog_2_method_9_code
def yX0_placeAmongLike : MethodName := ⟨RX0, "placeAmongLike", "(I)I"⟩
abbrev cX0_countOf : ByteArray := prog_2_method_10_code
def yX0_countOf : MethodName := ⟨RX0, "countOf", "(Z)I"⟩
abbrev cX0_isMistaken : ByteArray := prog_2_method_11_code
def yX0_isMistaken : MethodName := ⟨RX0, "isMistaken", "(II)Z"⟩
abbrev cX0_guardsMistakenAbout : ByteArray := prog_2_method_12_code
def yX0_guardsMistakenAbout : MethodName := ⟨RX0, "guardsMistakenAbout", "(I)I"⟩
abbrev cX0_mistakesOf : ByteArray := prog_2_method_13_code
def yX0_mistakesOf : MethodName := ⟨RX0, "mistakesOf", "(I)I"⟩
abbrev cX0_mistakesOfAll : ByteArray := prog_2_method_14_code
def yX0_mistakesOfAll : MethodName := ⟨RX0, "mistakesOfAll", "()I"⟩
abbrev cX0_daysOfAll : ByteArray := prog_2_method_15_code
def yX0_daysOfAll : MethodName := ⟨RX0, "daysOfAll", "()I"⟩
abbrev cX0_pushesOfAll : ByteArray := prog_2_method_16_code
def yX0_pushesOfAll : MethodName := ⟨RX0, "pushesOfAll", "()I"⟩
abbrev cX0_knowing : ByteArray := prog_2_method_17_code
def yX0_knowing : MethodName := ⟨RX0, "knowing", "(II)F"⟩
abbrev cX0_votesFor : ByteArray := prog_2_method_18_code
def yX0_votesFor : MethodName := ⟨RX0, "votesFor", "(I)I"⟩
abbrev cX0_admitsByVote : ByteArray := prog_2_method_19_code
def yX0_admitsByVote : MethodName := ⟨RX0, "admitsByVote", "(I)Z"⟩
abbrev cX0_guardsAheadOf : ByteArray := prog_2_method_20_code
def yX0_guardsAheadOf : MethodName := ⟨RX0, "guardsAheadOf", "(I)I"⟩
abbrev cX0_isAhead : ByteArray := prog_2_method_21_code
def yX0_isAhead : MethodName := ⟨RX0, "isAhead", "(II)Z"⟩
abbrev cX0_marginsMatch : ByteArray := prog_2_method_22_code
def yX0_marginsMatch : MethodName := ⟨RX0, "marginsMatch", "(I)Z"⟩
abbrev cX0_liveDays : ByteArray := prog_2_method_23_code
def yX0_liveDays : MethodName := ⟨RX0, "liveDays", "(LGateGuards$Guard;I)I"⟩
def RX1 : String := "GateGuards$Guard"
def TX1 : u_T := fun k => match k with
  | 0 => ("GateGuards$Guard", "rate", "I", false)
  | 1 => ("GateGuards$Guard", "caution", "I", false)
  | 2 => ("GateGuards$Guard", "weights", "[F", true)
  | 3 => ("GateGuards$Guard", "counts", "[I", true)
  | 4 => ("GateGuards$Guard", "sums", "[F", true)
  | 5 => ("GateGuards$Guard", "days", "I", false)
  | 6 => ("GateGuards$Guard", "pushes", "I", false)
  | 7 => ("GateGuards$Guard", "latestPushes", "I", false)
  | _ => ("GateGuards$Guard", "lessons", "I", false)
def tyX1 : Nat → FieldType := fun k => match k with
  | 0 => .int
  | 1 => .int
  | 2 => .array .float
  | 3 => .array .int
  | 4 => .array .float
  | 5 => .int
  | 6 => .int
  | 7 => .int
  | _ => .int
abbrev wsX10 : List Cond := u_ws RX1 TX1 9
theorem nmX1 : ∀ a, a < 9 → ∀ b, b < 9 → a ≠ b → (TX1 a).2.1 ≠ (TX1 b).2.1 := by decide +kernel
theorem tyX1_ok : ∀ k, k < 9 → parseFieldDescriptor (TX1 k).2.2.1 = some (tyX1 k) := by decide +kernel
abbrev cX1_init : ByteArray := prog_3_method_1_code
def yX1_init : MethodName := ⟨RX1, "<init>", "()V"⟩
abbrev cX1_begin : ByteArray := prog_3_method_2_code
def yX1_begin : MethodName := ⟨RX1, "begin", "(I)V"⟩
abbrev cX1_copyFrom : ByteArray := prog_3_method_3_code
def yX1_copyFrom : MethodName := ⟨RX1, "copyFrom", "(LGateGuards$Guard;)V"⟩
abbrev cX1_marginOf : ByteArray := prog_3_method_4_code
def yX1_marginOf : MethodName := ⟨RX1, "marginOf", "(I)F"⟩
abbrev cX1_countedMarginOf : ByteArray := prog_3_method_5_code
def yX1_countedMarginOf : MethodName := ⟨RX1, "countedMarginOf", "(I)F"⟩
abbrev cX1_admits : ByteArray := prog_3_method_6_code
def yX1_admits : MethodName := ⟨RX1, "admits", "(I)Z"⟩
abbrev cX1_needsPush : ByteArray := prog_3_method_7_code
def yX1_needsPush : MethodName := ⟨RX1, "needsPush", "(FZ)Z"⟩
abbrev cX1_hasRoom : ByteArray := prog_3_method_8_code
def yX1_hasRoom : MethodName := ⟨RX1, "hasRoom", "(IZ)Z"⟩
abbrev cX1_learn : ByteArray := prog_3_method_9_code
def yX1_learn : MethodName := ⟨RX1, "learn", "(IZ)I"⟩
abbrev cX1_push : ByteArray := prog_3_method_10_code
def yX1_push : MethodName := ⟨RX1, "push", "(IZ)V"⟩
abbrev cX1_endDay : ByteArray := prog_3_method_11_code
def yX1_endDay : MethodName := ⟨RX1, "endDay", "(I)V"⟩
abbrev cX1_strongerThan : ByteArray := prog_3_method_12_code
def yX1_strongerThan : MethodName := ⟨RX1, "strongerThan", "(I)I"⟩
abbrev cX1_isAsCounted : ByteArray := prog_3_method_13_code
def yX1_isAsCounted : MethodName := ⟨RX1, "isAsCounted", "()Z"⟩
def RX2 : String := "GateGuards$Text"
def TX2 : u_T := fun k => match k with
  | 0 => ("GateGuards$Text", "signs", "[C", true)
  | 1 => ("GateGuards$Text", "length", "I", false)
  | 2 => ("GateGuards$Text", "kinds", "[C", true)
  | 3 => ("GateGuards$Text", "firsts", "[I", true)
  | 4 => ("GateGuards$Text", "seconds", "[I", true)
  | 5 => ("GateGuards$Text", "orders", "I", false)
  | _ => ("GateGuards$Text", "at", "I", false)
def tyX2 : Nat → FieldType := fun k => match k with
  | 0 => .array .char
  | 1 => .int
  | 2 => .array .char
  | 3 => .array .int
  | 4 => .array .int
  | 5 => .int
  | _ => .int
abbrev wsX20 : List Cond := u_ws RX2 TX2 7
theorem nmX2 : ∀ a, a < 7 → ∀ b, b < 7 → a ≠ b → (TX2 a).2.1 ≠ (TX2 b).2.1 := by decide +kernel
theorem tyX2_ok : ∀ k, k < 7 → parseFieldDescriptor (TX2 k).2.2.1 = some (tyX2 k) := by decide +kernel
abbrev cX2_init : ByteArray := prog_4_method_1_code
def yX2_init : MethodName := ⟨RX2, "<init>", "()V"⟩
abbrev cX2_read : ByteArray := prog_4_method_2_code
def yX2_read : MethodName := ⟨RX2, "read", "()Z"⟩
abbrev cX2_sign : ByteArray := prog_4_method_3_code
def yX2_sign : MethodName := ⟨RX2, "sign", "()C"⟩
abbrev cX2_readOrder : ByteArray := prog_4_method_4_code
def yX2_readOrder : MethodName := ⟨RX2, "readOrder", "()Z"⟩
abbrev cX2_readBadges : ByteArray := prog_4_method_5_code
def yX2_readBadges : MethodName := ⟨RX2, "readBadges", "()I"⟩
abbrev cX2_readTaught : ByteArray := prog_4_method_6_code
def yX2_readTaught : MethodName := ⟨RX2, "readTaught", "()I"⟩
abbrev cX2_readNumber : ByteArray := prog_4_method_7_code
def yX2_readNumber : MethodName := ⟨RX2, "readNumber", "()I"⟩
abbrev cX2_readDigit : ByteArray := prog_4_method_8_code
def yX2_readDigit : MethodName := ⟨RX2, "readDigit", "()I"⟩
def RX3 : String := "GateGuards"
def TX3 : u_T := fun k => match k with
  | 0 => ("GateGuards", "now", "LGateGuards$Gate;", true)
  | 1 => ("GateGuards", "beforeRun", "LGateGuards$Gate;", true)
  | 2 => ("GateGuards", "snapshot", "LGateGuards$Gate;", true)
  | 3 => ("GateGuards", "hasSnapshot", "Z", false)
  | 4 => ("GateGuards", "past", "[LGateGuards$Gate;", true)
  | 5 => ("GateGuards", "firstKept", "I", false)
  | 6 => ("GateGuards", "kept", "I", false)
  | 7 => ("GateGuards", "trial", "LGateGuards$Guard;", true)
  | 8 => ("GateGuards", "input", "LGateGuards$Text;", true)
  | 9 => ("GateGuards", "written", "Ljava/lang/StringBuilder;", true)
  | 10 => ("GateGuards", "error", "I", false)
  | 11 => ("GateGuards", "reason", "I", false)
  | _ => ("GateGuards", "detail", "I", false)
def tyX3 : Nat → FieldType := fun k => match k with
  | 0 => .object "GateGuards$Gate"
  | 1 => .object "GateGuards$Gate"
  | 2 => .object "GateGuards$Gate"
  | 3 => .boolean
  | 4 => .array (.object "GateGuards$Gate")
  | 5 => .int
  | 6 => .int
  | 7 => .object "GateGuards$Guard"
  | 8 => .object "GateGuards$Text"
  | 9 => .object "java/lang/StringBuilder"
  | 10 => .int
  | 11 => .int
  | _ => .int
abbrev wsX30 : List Cond := u_ws RX3 TX3 13
theorem nmX3 : ∀ a, a < 13 → ∀ b, b < 13 → a ≠ b → (TX3 a).2.1 ≠ (TX3 b).2.1 := by decide +kernel
theorem tyX3_ok : ∀ k, k < 13 → parseFieldDescriptor (TX3 k).2.2.1 = some (tyX3 k) := by decide +kernel
abbrev cX3_init : ByteArray := prog_1_method_1_code
def yX3_init : MethodName := ⟨RX3, "<init>", "()V"⟩
abbrev cX3_guard : ByteArray := prog_1_method_2_code
def yX3_guard : MethodName := ⟨RX3, "guard", "(I)I"⟩
abbrev cX3_rate : ByteArray := prog_1_method_3_code
def yX3_rate : MethodName := ⟨RX3, "rate", "(II)I"⟩
abbrev cX3_caution : ByteArray := prog_1_method_4_code
def yX3_caution : MethodName := ⟨RX3, "caution", "(II)I"⟩
abbrev cX3_visitor : ByteArray := prog_1_method_5_code
def yX3_visitor : MethodName := ⟨RX3, "visitor", "(IZ)I"⟩
abbrev cX3_forget : ByteArray := prog_1_method_6_code
def yX3_forget : MethodName := ⟨RX3, "forget", "(I)I"⟩
abbrev cX3_visitorOf : ByteArray := prog_1_method_7_code
def yX3_visitorOf : MethodName := ⟨RX3, "visitorOf", "(II)I"⟩
abbrev cX3_guardOf : ByteArray := prog_1_method_8_code
def yX3_guardOf : MethodName := ⟨RX3, "guardOf", "(II)I"⟩
abbrev cX3_margin : ByteArray := prog_1_method_9_code
def yX3_margin : MethodName := ⟨RX3, "margin", "(IIZ)F"⟩
abbrev cX3_letsIn : ByteArray := prog_1_method_10_code
def yX3_letsIn : MethodName := ⟨RX3, "letsIn", "(II)Z"⟩
abbrev cX3_weightBits : ByteArray := prog_1_method_11_code
def yX3_weightBits : MethodName := ⟨RX3, "weightBits", "(II)I"⟩
abbrev cX3_counted : ByteArray := prog_1_method_12_code
def yX3_counted : MethodName := ⟨RX3, "counted", "(II)I"⟩
abbrev cX3_mean : ByteArray := prog_1_method_13_code
def yX3_mean : MethodName := ⟨RX3, "mean", "(II)F"⟩
abbrev cX3_strongest : ByteArray := prog_1_method_14_code
def yX3_strongest : MethodName := ⟨RX3, "strongest", "(II)I"⟩
abbrev cX3_closest : ByteArray := prog_1_method_15_code
def yX3_closest : MethodName := ⟨RX3, "closest", "(I)I"⟩
abbrev cX3_knows : ByteArray := prog_1_method_16_code
def yX3_knows : MethodName := ⟨RX3, "knows", "(II)F"⟩
abbrev cX3_teach : ByteArray := prog_1_method_17_code
def yX3_teach : MethodName := ⟨RX3, "teach", "(II)I"⟩
abbrev cX3_day : ByteArray := prog_1_method_18_code
def yX3_day : MethodName := ⟨RX3, "day", "(I)I"⟩
abbrev cX3_days : ByteArray := prog_1_method_19_code
def yX3_days : MethodName := ⟨RX3, "days", "(II)I"⟩
abbrev cX3_wouldCalm : ByteArray := prog_1_method_20_code
def yX3_wouldCalm : MethodName := ⟨RX3, "wouldCalm", "(II)I"⟩
abbrev cX3_wouldPush : ByteArray := prog_1_method_21_code
def yX3_wouldPush : MethodName := ⟨RX3, "wouldPush", "(II)Z"⟩
abbrev cX3_votes : ByteArray := prog_1_method_22_code
def yX3_votes : MethodName := ⟨RX3, "votes", "(I)I"⟩
abbrev cX3_isVotedIn : ByteArray := prog_1_method_23_code
def yX3_isVotedIn : MethodName := ⟨RX3, "isVotedIn", "(I)Z"⟩
abbrev cX3_agree : ByteArray := prog_1_method_24_code
def yX3_agree : MethodName := ⟨RX3, "agree", "(II)I"⟩
abbrev cX3_mistaken : ByteArray := prog_1_method_25_code
def yX3_mistaken : MethodName := ⟨RX3, "mistaken", "()I"⟩
abbrev cX3_ranked : ByteArray := prog_1_method_26_code
def yX3_ranked : MethodName := ⟨RX3, "ranked", "(I)I"⟩
abbrev cX3_line : ByteArray := prog_1_method_27_code
def yX3_line : MethodName := ⟨RX3, "line", "(I)I"⟩
abbrev cX3_guardLine : ByteArray := prog_1_method_28_code
def yX3_guardLine : MethodName := ⟨RX3, "guardLine", "(I)I"⟩
abbrev cX3_character : ByteArray := prog_1_method_29_code
def yX3_character : MethodName := ⟨RX3, "character", "(I)C"⟩
abbrev cX3_append : ByteArray := prog_1_method_30_code
def yX3_append : MethodName := ⟨RX3, "append", "(C)I"⟩
abbrev cX3_run : ByteArray := prog_1_method_31_code
def yX3_run : MethodName := ⟨RX3, "run", "()I"⟩
abbrev cX3_errorPosition : ByteArray := prog_1_method_32_code
def yX3_errorPosition : MethodName := ⟨RX3, "errorPosition", "()I"⟩
abbrev cX3_refusal : ByteArray := prog_1_method_33_code
def yX3_refusal : MethodName := ⟨RX3, "refusal", "(Z)I"⟩
abbrev cX3_account : ByteArray := prog_1_method_34_code
def yX3_account : MethodName := ⟨RX3, "account", "(I)I"⟩
abbrev cX3_isWell : ByteArray := prog_1_method_35_code
def yX3_isWell : MethodName := ⟨RX3, "isWell", "()Z"⟩
abbrev cX3_meanBadges : ByteArray := prog_1_method_36_code
def yX3_meanBadges : MethodName := ⟨RX3, "meanBadges", "()D"⟩
abbrev cX3_undo : ByteArray := prog_1_method_37_code
def yX3_undo : MethodName := ⟨RX3, "undo", "()I"⟩
abbrev cX3_save : ByteArray := prog_1_method_38_code
def yX3_save : MethodName := ⟨RX3, "save", "()I"⟩
abbrev cX3_restore : ByteArray := prog_1_method_39_code
def yX3_restore : MethodName := ⟨RX3, "restore", "()I"⟩
abbrev cX3_requireGuard : ByteArray := prog_1_method_40_code
def yX3_requireGuard : MethodName := ⟨RX3, "requireGuard", "(I)V"⟩
abbrev cX3_requireVisitor : ByteArray := prog_1_method_41_code
def yX3_requireVisitor : MethodName := ⟨RX3, "requireVisitor", "(I)V"⟩
abbrev cX3_requireRate : ByteArray := prog_1_method_42_code
def yX3_requireRate : MethodName := ⟨RX3, "requireRate", "(I)V"⟩
abbrev cX3_requireSet : ByteArray := prog_1_method_43_code
def yX3_requireSet : MethodName := ⟨RX3, "requireSet", "(I)V"⟩
abbrev cX3_requireBadge : ByteArray := prog_1_method_44_code
def yX3_requireBadge : MethodName := ⟨RX3, "requireBadge", "(II)V"⟩
abbrev cX3_requireDays : ByteArray := prog_1_method_45_code
def yX3_requireDays : MethodName := ⟨RX3, "requireDays", "(I)V"⟩
abbrev cX3_isRate : ByteArray := prog_1_method_46_code
def yX3_isRate : MethodName := ⟨RX3, "isRate", "(I)Z"⟩
abbrev cX3_refuse : ByteArray := prog_1_method_47_code
def yX3_refuse : MethodName := ⟨RX3, "refuse", "(II)V"⟩
abbrev cX3_refusesGuard : ByteArray := prog_1_method_48_code
def yX3_refusesGuard : MethodName := ⟨RX3, "refusesGuard", "()Z"⟩
abbrev cX3_refusesVisitor : ByteArray := prog_1_method_49_code
def yX3_refusesVisitor : MethodName := ⟨RX3, "refusesVisitor", "(I)Z"⟩
abbrev cX3_tryLesson : ByteArray := prog_1_method_50_code
def yX3_tryLesson : MethodName := ⟨RX3, "tryLesson", "(II)I"⟩
abbrev cX3_tryDays : ByteArray := prog_1_method_51_code
def yX3_tryDays : MethodName := ⟨RX3, "tryDays", "(II)I"⟩
abbrev cX3_keep : ByteArray := prog_1_method_52_code
def yX3_keep : MethodName := ⟨RX3, "keep", "(LGateGuards$Gate;)V"⟩
abbrev cX3_carryOut : ByteArray := prog_1_method_53_code
def yX3_carryOut : MethodName := ⟨RX3, "carryOut", "(CII)I"⟩
abbrev cX3_orderGuard : ByteArray := prog_1_method_54_code
def yX3_orderGuard : MethodName := ⟨RX3, "orderGuard", "(I)I"⟩
abbrev cX3_orderVisitor : ByteArray := prog_1_method_55_code
def yX3_orderVisitor : MethodName := ⟨RX3, "orderVisitor", "(IZ)I"⟩
abbrev cX3_orderForgetting : ByteArray := prog_1_method_56_code
def yX3_orderForgetting : MethodName := ⟨RX3, "orderForgetting", "(I)I"⟩
abbrev cX3_orderLesson : ByteArray := prog_1_method_57_code
def yX3_orderLesson : MethodName := ⟨RX3, "orderLesson", "(II)I"⟩
abbrev cX3_orderDay : ByteArray := prog_1_method_58_code
def yX3_orderDay : MethodName := ⟨RX3, "orderDay", "(I)I"⟩
abbrev cX3_bitsOf : ByteArray := prog_1_method_59_code
def yX3_bitsOf : MethodName := ⟨RX3, "bitsOf", "(F)I"⟩
def RX4 : String := "GateGuardsModel"
def TX4 : u_T := fun k => match k with
  | 0 => ("GateGuardsModel", "s", "[I", true)
  | 1 => ("GateGuardsModel", "before", "[I", true)
  | 2 => ("GateGuardsModel", "saved", "[I", true)
  | 3 => ("GateGuardsModel", "isSaved", "Z", false)
  | 4 => ("GateGuardsModel", "past", "[I", true)
  | 5 => ("GateGuardsModel", "pastMany", "I", false)
  | 6 => ("GateGuardsModel", "thrown", "I", false)
  | 7 => ("GateGuardsModel", "reason", "I", false)
  | 8 => ("GateGuardsModel", "detail", "I", false)
  | 9 => ("GateGuardsModel", "isRefused", "Z", false)
  | 10 => ("GateGuardsModel", "aside", "[I", true)
  | 11 => ("GateGuardsModel", "line", "[C", true)
  | 12 => ("GateGuardsModel", "lineMany", "I", false)
  | 13 => ("GateGuardsModel", "text", "[C", true)
  | 14 => ("GateGuardsModel", "length", "I", false)
  | 15 => ("GateGuardsModel", "at", "I", false)
  | 16 => ("GateGuardsModel", "isWrong", "Z", false)
  | 17 => ("GateGuardsModel", "error", "I", false)
  | 18 => ("GateGuardsModel", "orders", "[I", true)
  | _ => ("GateGuardsModel", "orderMany", "I", false)
def tyX4 : Nat → FieldType := fun k => match k with
  | 0 => .array .int
  | 1 => .array .int
  | 2 => .array .int
  | 3 => .boolean
  | 4 => .array .int
  | 5 => .int
  | 6 => .int
  | 7 => .int
  | 8 => .int
  | 9 => .boolean
  | 10 => .array .int
  | 11 => .array .char
  | 12 => .int
  | 13 => .array .char
  | 14 => .int
  | 15 => .int
  | 16 => .boolean
  | 17 => .int
  | 18 => .array .int
  | _ => .int
abbrev wsX40 : List Cond := u_ws RX4 TX4 20
theorem nmX4 : ∀ a, a < 20 → ∀ b, b < 20 → a ≠ b → (TX4 a).2.1 ≠ (TX4 b).2.1 := by decide +kernel
theorem tyX4_ok : ∀ k, k < 20 → parseFieldDescriptor (TX4 k).2.2.1 = some (tyX4 k) := by decide +kernel
abbrev cX4_init : ByteArray := prog_6_method_1_code
def yX4_init : MethodName := ⟨RX4, "<init>", "()V"⟩
abbrev cX4_thrown : ByteArray := prog_6_method_2_code
def yX4_thrown : MethodName := ⟨RX4, "thrown", "()I"⟩
abbrev cX4_in : ByteArray := prog_6_method_3_code
def yX4_in : MethodName := ⟨RX4, "in", "(III)Z"⟩
abbrev cX4_keep : ByteArray := prog_6_method_4_code
def yX4_keep : MethodName := ⟨RX4, "keep", "()V"⟩
abbrev cX4_ends : ByteArray := prog_6_method_5_code
def yX4_ends : MethodName := ⟨RX4, "ends", "(I)I"⟩
abbrev cX4_fails : ByteArray := prog_6_method_6_code
def yX4_fails : MethodName := ⟨RX4, "fails", "(I)I"⟩
abbrev cX4_refuse : ByteArray := prog_6_method_7_code
def yX4_refuse : MethodName := ⟨RX4, "refuse", "(III)I"⟩
abbrev cX4_refusal : ByteArray := prog_6_method_8_code
def yX4_refusal : MethodName := ⟨RX4, "refusal", "(Z)I"⟩
abbrev cX4_isGuard : ByteArray := prog_6_method_9_code
def yX4_isGuard : MethodName := ⟨RX4, "isGuard", "(I)Z"⟩
abbrev cX4_isVisitor : ByteArray := prog_6_method_10_code
def yX4_isVisitor : MethodName := ⟨RX4, "isVisitor", "(I)Z"⟩
abbrev cX4_isSet : ByteArray := prog_6_method_11_code
def yX4_isSet : MethodName := ⟨RX4, "isSet", "(I)Z"⟩
abbrev cX4_at : ByteArray := prog_6_method_12_code
def yX4_at : MethodName := ⟨RX4, "at", "(II)I"⟩
abbrev cX4_badges : ByteArray := prog_6_method_13_code
def yX4_badges : MethodName := ⟨RX4, "badges", "(I)I"⟩
abbrev cX4_isFriend : ByteArray := prog_6_method_14_code
def yX4_isFriend : MethodName := ⟨RX4, "isFriend", "(I)Z"⟩
abbrev cX4_doGuard : ByteArray := prog_6_method_15_code
def yX4_doGuard : MethodName := ⟨RX4, "doGuard", "(I)I"⟩
abbrev cX4_guard : ByteArray := prog_6_method_16_code
def yX4_guard : MethodName := ⟨RX4, "guard", "(I)I"⟩
abbrev cX4_sets : ByteArray := prog_6_method_17_code
def yX4_sets : MethodName := ⟨RX4, "sets", "(IIIZ)I"⟩
abbrev cX4_rate : ByteArray := prog_6_method_18_code
def yX4_rate : MethodName := ⟨RX4, "rate", "(II)I"⟩
abbrev cX4_caution : ByteArray := prog_6_method_19_code
def yX4_caution : MethodName := ⟨RX4, "caution", "(II)I"⟩
abbrev cX4_doVisitor : ByteArray := prog_6_method_20_code
def yX4_doVisitor : MethodName := ⟨RX4, "doVisitor", "(IZ)I"⟩
abbrev cX4_visitor : ByteArray := prog_6_method_21_code
def yX4_visitor : MethodName := ⟨RX4, "visitor", "(IZ)I"⟩
abbrev cX4_doForget : ByteArray := prog_6_method_22_code
def yX4_doForget : MethodName := ⟨RX4, "doForget", "(I)I"⟩
abbrev cX4_forget : ByteArray := prog_6_method_23_code
def yX4_forget : MethodName := ⟨RX4, "forget", "(I)I"⟩
abbrev cX4_has : ByteArray := prog_6_method_24_code
def yX4_has : MethodName := ⟨RX4, "has", "(II)Z"⟩
abbrev cX4_countedOf : ByteArray := prog_6_method_25_code
def yX4_countedOf : MethodName := ⟨RX4, "countedOf", "(II)I"⟩
abbrev cX4_weight : ByteArray := prog_6_method_26_code
def yX4_weight : MethodName := ⟨RX4, "weight", "(II)F"⟩
abbrev cX4_marginOf : ByteArray := prog_6_method_27_code
def yX4_marginOf : MethodName := ⟨RX4, "marginOf", "(II)F"⟩
abbrev cX4_isIn : ByteArray := prog_6_method_28_code
def yX4_isIn : MethodName := ⟨RX4, "isIn", "(II)Z"⟩
abbrev cX4_errs : ByteArray := prog_6_method_29_code
def yX4_errs : MethodName := ⟨RX4, "errs", "(II)Z"⟩
abbrev cX4_pushes : ByteArray := prog_6_method_30_code
def yX4_pushes : MethodName := ⟨RX4, "pushes", "(II)Z"⟩
abbrev cX4_errors : ByteArray := prog_6_method_31_code
def yX4_errors : MethodName := ⟨RX4, "errors", "(I)I"⟩
abbrev cX4_errorsAbout : ByteArray := prog_6_method_32_code
def yX4_errorsAbout : MethodName := ⟨RX4, "errorsAbout", "(I)I"⟩
abbrev cX4_sizeOf : ByteArray := prog_6_method_33_code
def yX4_sizeOf : MethodName := ⟨RX4, "sizeOf", "(I)I"⟩
abbrev cX4_placeOf : ByteArray := prog_6_method_34_code
def yX4_placeOf : MethodName := ⟨RX4, "placeOf", "(I)I"⟩
abbrev cX4_visitorOf : ByteArray := prog_6_method_35_code
def yX4_visitorOf : MethodName := ⟨RX4, "visitorOf", "(II)I"⟩
abbrev cX4_guardOf : ByteArray := prog_6_method_36_code
def yX4_guardOf : MethodName := ⟨RX4, "guardOf", "(II)I"⟩
abbrev cX4_isAsked : ByteArray := prog_6_method_37_code
def yX4_isAsked : MethodName := ⟨RX4, "isAsked", "(IZ)Z"⟩
abbrev cX4_margin : ByteArray := prog_6_method_38_code
def yX4_margin : MethodName := ⟨RX4, "margin", "(IIZ)F"⟩
abbrev cX4_letsIn : ByteArray := prog_6_method_39_code
def yX4_letsIn : MethodName := ⟨RX4, "letsIn", "(II)Z"⟩
abbrev cX4_weightBits : ByteArray := prog_6_method_40_code
def yX4_weightBits : MethodName := ⟨RX4, "weightBits", "(II)I"⟩
abbrev cX4_counted : ByteArray := prog_6_method_41_code
def yX4_counted : MethodName := ⟨RX4, "counted", "(II)I"⟩
abbrev cX4_mean : ByteArray := prog_6_method_42_code
def yX4_mean : MethodName := ⟨RX4, "mean", "(II)F"⟩
abbrev cX4_strongest : ByteArray := prog_6_method_43_code
def yX4_strongest : MethodName := ⟨RX4, "strongest", "(II)I"⟩
abbrev cX4_knowsOf : ByteArray := prog_6_method_44_code
def yX4_knowsOf : MethodName := ⟨RX4, "knowsOf", "(II)F"⟩
abbrev cX4_closest : ByteArray := prog_6_method_45_code
def yX4_closest : MethodName := ⟨RX4, "closest", "(I)I"⟩
abbrev cX4_knows : ByteArray := prog_6_method_46_code
def yX4_knows : MethodName := ⟨RX4, "knows", "(II)F"⟩
abbrev cX4_taught : ByteArray := prog_6_method_47_code
def yX4_taught : MethodName := ⟨RX4, "taught", "(II)I"⟩
abbrev cX4_doTeach : ByteArray := prog_6_method_48_code
def yX4_doTeach : MethodName := ⟨RX4, "doTeach", "(II)I"⟩
abbrev cX4_teach : ByteArray := prog_6_method_49_code
def yX4_teach : MethodName := ⟨RX4, "teach", "(II)I"⟩
abbrev cX4_goesBy : ByteArray := prog_6_method_50_code
def yX4_goesBy : MethodName := ⟨RX4, "goesBy", "(I)I"⟩
abbrev cX4_doDay : ByteArray := prog_6_method_51_code
def yX4_doDay : MethodName := ⟨RX4, "doDay", "(I)I"⟩
abbrev cX4_day : ByteArray := prog_6_method_52_code
def yX4_day : MethodName := ⟨RX4, "day", "(I)I"⟩
abbrev cX4_doDays : ByteArray := prog_6_method_53_code
def yX4_doDays : MethodName := ⟨RX4, "doDays", "(II)I"⟩
abbrev cX4_days : ByteArray := prog_6_method_54_code
def yX4_days : MethodName := ⟨RX4, "days", "(II)I"⟩
abbrev cX4_wouldCalm : ByteArray := prog_6_method_55_code
def yX4_wouldCalm : MethodName := ⟨RX4, "wouldCalm", "(II)I"⟩
abbrev cX4_wouldPush : ByteArray := prog_6_method_56_code
def yX4_wouldPush : MethodName := ⟨RX4, "wouldPush", "(II)Z"⟩
abbrev cX4_votesFor : ByteArray := prog_6_method_57_code
def yX4_votesFor : MethodName := ⟨RX4, "votesFor", "(I)I"⟩
abbrev cX4_votes : ByteArray := prog_6_method_58_code
def yX4_votes : MethodName := ⟨RX4, "votes", "(I)I"⟩
abbrev cX4_isVoted : ByteArray := prog_6_method_59_code
def yX4_isVoted : MethodName := ⟨RX4, "isVoted", "(I)Z"⟩
abbrev cX4_isVotedIn : ByteArray := prog_6_method_60_code
def yX4_isVotedIn : MethodName := ⟨RX4, "isVotedIn", "(I)Z"⟩
abbrev cX4_agree : ByteArray := prog_6_method_61_code
def yX4_agree : MethodName := ⟨RX4, "agree", "(II)I"⟩
abbrev cX4_mistaken : ByteArray := prog_6_method_62_code
def yX4_mistaken : MethodName := ⟨RX4, "mistaken", "()I"⟩
abbrev cX4_isAhead : ByteArray := prog_6_method_63_code
def yX4_isAhead : MethodName := ⟨RX4, "isAhead", "(II)Z"⟩
abbrev cX4_ranked : ByteArray := prog_6_method_64_code
def yX4_ranked : MethodName := ⟨RX4, "ranked", "(I)I"⟩
abbrev cX4_says : ByteArray := prog_6_method_65_code
def yX4_says : MethodName := ⟨RX4, "says", "(C)V"⟩
abbrev cX4_saysNumber : ByteArray := prog_6_method_66_code
def yX4_saysNumber : MethodName := ⟨RX4, "saysNumber", "(I)V"⟩
abbrev cX4_line : ByteArray := prog_6_method_67_code
def yX4_line : MethodName := ⟨RX4, "line", "(I)I"⟩
abbrev cX4_guardLine : ByteArray := prog_6_method_68_code
def yX4_guardLine : MethodName := ⟨RX4, "guardLine", "(I)I"⟩
abbrev cX4_character : ByteArray := prog_6_method_69_code
def yX4_character : MethodName := ⟨RX4, "character", "(I)C"⟩
abbrev cX4_append : ByteArray := prog_6_method_70_code
def yX4_append : MethodName := ⟨RX4, "append", "(C)I"⟩
abbrev cX4_isHere : ByteArray := prog_6_method_71_code
def yX4_isHere : MethodName := ⟨RX4, "isHere", "(CC)Z"⟩
abbrev cX4_sign : ByteArray := prog_6_method_72_code
def yX4_sign : MethodName := ⟨RX4, "sign", "(CC)I"⟩
abbrev cX4_number : ByteArray := prog_6_method_73_code
def yX4_number : MethodName := ⟨RX4, "number", "()I"⟩
abbrev cX4_letters : ByteArray := prog_6_method_74_code
def yX4_letters : MethodName := ⟨RX4, "letters", "()I"⟩
abbrev cX4_readOrder : ByteArray := prog_6_method_75_code
def yX4_readOrder : MethodName := ⟨RX4, "readOrder", "()V"⟩
abbrev cX4_does : ByteArray := prog_6_method_76_code
def yX4_does : MethodName := ⟨RX4, "does", "(I)V"⟩
abbrev cX4_run : ByteArray := prog_6_method_77_code
def yX4_run : MethodName := ⟨RX4, "run", "()I"⟩
abbrev cX4_errorPosition : ByteArray := prog_6_method_78_code
def yX4_errorPosition : MethodName := ⟨RX4, "errorPosition", "()I"⟩
abbrev cX4_friends : ByteArray := prog_6_method_79_code
def yX4_friends : MethodName := ⟨RX4, "friends", "()I"⟩
abbrev cX4_ofAll : ByteArray := prog_6_method_80_code
def yX4_ofAll : MethodName := ⟨RX4, "ofAll", "(I)I"⟩
abbrev cX4_account : ByteArray := prog_6_method_81_code
def yX4_account : MethodName := ⟨RX4, "account", "(I)I"⟩
abbrev cX4_isWell : ByteArray := prog_6_method_82_code
def yX4_isWell : MethodName := ⟨RX4, "isWell", "()Z"⟩
abbrev cX4_meanBadges : ByteArray := prog_6_method_83_code
def yX4_meanBadges : MethodName := ⟨RX4, "meanBadges", "()D"⟩
abbrev cX4_undo : ByteArray := prog_6_method_84_code
def yX4_undo : MethodName := ⟨RX4, "undo", "()I"⟩
abbrev cX4_save : ByteArray := prog_6_method_85_code
def yX4_save : MethodName := ⟨RX4, "save", "()I"⟩
abbrev cX4_restore : ByteArray := prog_6_method_86_code
def yX4_restore : MethodName := ⟨RX4, "restore", "()I"⟩
def RL : String := "GateGuardsLaw"
abbrev cL_guard : ByteArray := method_3_code
def yL_guard : MethodName := ⟨RL, "guard", "(LGateGuards;I[J)I"⟩
abbrev cL_rate : ByteArray := method_4_code
def yL_rate : MethodName := ⟨RL, "rate", "(LGateGuards;II[J)I"⟩
abbrev cL_caution : ByteArray := method_5_code
def yL_caution : MethodName := ⟨RL, "caution", "(LGateGuards;II[J)I"⟩
abbrev cL_visitor : ByteArray := method_6_code
def yL_visitor : MethodName := ⟨RL, "visitor", "(LGateGuards;IZ[J)I"⟩
abbrev cL_forget : ByteArray := method_7_code
def yL_forget : MethodName := ⟨RL, "forget", "(LGateGuards;I[J)I"⟩
abbrev cL_visitorOf : ByteArray := method_8_code
def yL_visitorOf : MethodName := ⟨RL, "visitorOf", "(LGateGuards;II[J)I"⟩
abbrev cL_guardOf : ByteArray := method_9_code
def yL_guardOf : MethodName := ⟨RL, "guardOf", "(LGateGuards;II[J)I"⟩
abbrev cL_margin : ByteArray := method_10_code
def yL_margin : MethodName := ⟨RL, "margin", "(LGateGuards;IIZ[D)I"⟩
abbrev cL_letsIn : ByteArray := method_11_code
def yL_letsIn : MethodName := ⟨RL, "letsIn", "(LGateGuards;II[J)I"⟩
abbrev cL_weightBits : ByteArray := method_12_code
def yL_weightBits : MethodName := ⟨RL, "weightBits", "(LGateGuards;II[J)I"⟩
abbrev cL_counted : ByteArray := method_13_code
def yL_counted : MethodName := ⟨RL, "counted", "(LGateGuards;II[J)I"⟩
abbrev cL_mean : ByteArray := method_14_code
def yL_mean : MethodName := ⟨RL, "mean", "(LGateGuards;II[D)I"⟩
abbrev cL_strongest : ByteArray := method_15_code
def yL_strongest : MethodName := ⟨RL, "strongest", "(LGateGuards;II[J)I"⟩
abbrev cL_closest : ByteArray := method_16_code
def yL_closest : MethodName := ⟨RL, "closest", "(LGateGuards;I[J)I"⟩
abbrev cL_knows : ByteArray := method_17_code
def yL_knows : MethodName := ⟨RL, "knows", "(LGateGuards;II[D)I"⟩
abbrev cL_teach : ByteArray := method_18_code
def yL_teach : MethodName := ⟨RL, "teach", "(LGateGuards;II[J)I"⟩
abbrev cL_day : ByteArray := method_19_code
def yL_day : MethodName := ⟨RL, "day", "(LGateGuards;I[J)I"⟩
abbrev cL_days : ByteArray := method_20_code
def yL_days : MethodName := ⟨RL, "days", "(LGateGuards;II[J)I"⟩
abbrev cL_wouldCalm : ByteArray := method_21_code
def yL_wouldCalm : MethodName := ⟨RL, "wouldCalm", "(LGateGuards;II[J)I"⟩
abbrev cL_wouldPush : ByteArray := method_22_code
def yL_wouldPush : MethodName := ⟨RL, "wouldPush", "(LGateGuards;II[J)I"⟩
abbrev cL_votes : ByteArray := method_23_code
def yL_votes : MethodName := ⟨RL, "votes", "(LGateGuards;I[J)I"⟩
abbrev cL_isVotedIn : ByteArray := method_24_code
def yL_isVotedIn : MethodName := ⟨RL, "isVotedIn", "(LGateGuards;I[J)I"⟩
abbrev cL_agree : ByteArray := method_25_code
def yL_agree : MethodName := ⟨RL, "agree", "(LGateGuards;II[J)I"⟩
abbrev cL_ranked : ByteArray := method_26_code
def yL_ranked : MethodName := ⟨RL, "ranked", "(LGateGuards;I[J)I"⟩
abbrev cL_line : ByteArray := method_27_code
def yL_line : MethodName := ⟨RL, "line", "(LGateGuards;I[J)I"⟩
abbrev cL_guardLine : ByteArray := method_28_code
def yL_guardLine : MethodName := ⟨RL, "guardLine", "(LGateGuards;I[J)I"⟩
abbrev cL_character : ByteArray := method_29_code
def yL_character : MethodName := ⟨RL, "character", "(LGateGuards;I[J)I"⟩
abbrev cL_append : ByteArray := method_30_code
def yL_append : MethodName := ⟨RL, "append", "(LGateGuards;C[J)I"⟩
abbrev cL_run : ByteArray := method_31_code
def yL_run : MethodName := ⟨RL, "run", "(LGateGuards;[J)I"⟩
abbrev cL_refusal : ByteArray := method_32_code
def yL_refusal : MethodName := ⟨RL, "refusal", "(LGateGuards;Z[J)I"⟩
abbrev cL_account : ByteArray := method_33_code
def yL_account : MethodName := ⟨RL, "account", "(LGateGuards;I[J)I"⟩
abbrev cL_meanBadges : ByteArray := method_34_code
def yL_meanBadges : MethodName := ⟨RL, "meanBadges", "(LGateGuards;[D)I"⟩
abbrev cL_undo : ByteArray := method_35_code
def yL_undo : MethodName := ⟨RL, "undo", "(LGateGuards;[J)I"⟩
abbrev cL_restore : ByteArray := method_36_code
def yL_restore : MethodName := ⟨RL, "restore", "(LGateGuards;[J)I"⟩
abbrev cL_law : ByteArray := code
def yL_law : MethodName := ⟨RL, "law", "([I)Z"⟩
theorem dX0_init_0 : decode cX0_init 0 = .ok (.aload_n 0, 1) := by decide +kernel
theorem dX0_init_1 : decode cX0_init 1 = .ok (.invokespecial 3, 3) := by decide +kernel
theorem dX0_init_4 : decode cX0_init 4 = .ok (.aload_n 0, 1) := by decide +kernel
theorem dX0_init_5 : decode cX0_init 5 = .ok (.iconst 4, 1) := by decide +kernel
theorem dX0_init_6 : decode cX0_init 6 = .ok (.anewarray 9, 3) := by decide +kernel
theorem dX0_init_9 : decode cX0_init 9 = .ok (.putfield 11, 3) := by decide +kernel
theorem dX0_init_12 : decode cX0_init 12 = .ok (.aload_n 0, 1) := by decide +kernel
theorem dX0_init_13 : decode cX0_init 13 = .ok (.iconst 0, 1) := by decide +kernel
theorem dX0_init_14 : decode cX0_init 14 = .ok (.putfield 17, 3) := by decide +kernel
theorem dX0_init_17 : decode cX0_init 17 = .ok (.aload_n 0, 1) := by decide +kernel
theorem dX0_init_18 : decode cX0_init 18 = .ok (.bipush 12, 2) := by decide +kernel
theorem dX0_init_20 : decode cX0_init 20 = .ok (.newarray .int, 2) := by decide +kernel
theorem dX0_init_22 : decode cX0_init 22 = .ok (.putfield 21, 3) := by decide +kernel
theorem dX0_init_25 : decode cX0_init 25 = .ok (.aload_n 0, 1) := by decide +kernel
theorem dX0_init_26 : decode cX0_init 26 = .ok (.bipush 12, 2) := by decide +kernel
theorem dX0_init_28 : decode cX0_init 28 = .ok (.newarray .boolean, 2) := by decide +kernel
theorem dX0_init_30 : decode cX0_init 30 = .ok (.putfield 25, 3) := by decide +kernel
theorem dX0_init_33 : decode cX0_init 33 = .ok (.aload_n 0, 1) := by decide +kernel
theorem dX0_init_34 : decode cX0_init 34 = .ok (.iconst 0, 1) := by decide +kernel
theorem dX0_init_35 : decode cX0_init 35 = .ok (.putfield 29, 3) := by decide +kernel
theorem dX0_init_38 : decode cX0_init 38 = .ok (.iconst 0, 1) := by decide +kernel
theorem dX0_init_39 : decode cX0_init 39 = .ok (.istore_n 1, 1) := by decide +kernel
theorem dX0_init_40 : decode cX0_init 40 = .ok (.iload_n 1, 1) := by decide +kernel
theorem dX0_init_41 : decode cX0_init 41 = .ok (.iconst 4, 1) := by decide +kernel
theorem dX0_init_42 : decode cX0_init 42 = .ok (.if_icmp .ge 22, 3) := by decide +kernel
theorem dX0_init_45 : decode cX0_init 45 = .ok (.aload_n 0, 1) := by decide +kernel
theorem dX0_init_46 : decode cX0_init 46 = .ok (.getfield 11, 3) := by decide +kernel
theorem dX0_init_49 : decode cX0_init 49 = .ok (.iload_n 1, 1) := by decide +kernel
theorem dX0_init_50 : decode cX0_init 50 = .ok (.new 9, 3) := by decide +kernel
theorem dX0_init_53 : decode cX0_init 53 = .ok (.dup, 1) := by decide +kernel
theorem dX0_init_54 : decode cX0_init 54 = .ok (.invokespecial 32, 3) := by decide +kernel
theorem dX0_init_57 : decode cX0_init 57 = .ok (.aastore, 1) := by decide +kernel
theorem dX0_init_58 : decode cX0_init 58 = .ok (.iinc 1 1, 3) := by decide +kernel
theorem dX0_init_61 : decode cX0_init 61 = .ok (.goto (-21), 3) := by decide +kernel
theorem dX0_init_64 : decode cX0_init 64 = .ok (.return_, 1) := by decide +kernel
theorem dX0_copyFrom_0 : decode cX0_copyFrom 0 = .ok (.aload_n 0, 1) := by decide +kernel
theorem dX0_copyFrom_1 : decode cX0_copyFrom 1 = .ok (.aload_n 1, 1) := by decide +kernel
theorem dX0_copyFrom_2 : decode cX0_copyFrom 2 = .ok (.getfield 17, 3) := by decide +kernel
theorem dX0_copyFrom_5 : decode cX0_copyFrom 5 = .ok (.putfield 17, 3) := by decide +kernel
theorem dX0_copyFrom_8 : decode cX0_copyFrom 8 = .ok (.iconst 0, 1) := by decide +kernel
theorem dX0_copyFrom_9 : decode cX0_copyFrom 9 = .ok (.istore_n 2, 1) := by decide +kernel
theorem dX0_copyFrom_10 : decode cX0_copyFrom 10 = .ok (.iload_n 2, 1) := by decide +kernel
theorem dX0_copyFrom_11 : decode cX0_copyFrom 11 = .ok (.aload_n 0, 1) := by decide +kernel
theorem dX0_copyFrom_12 : decode cX0_copyFrom 12 = .ok (.getfield 17, 3) := by decide +kernel
theorem dX0_copyFrom_15 : decode cX0_copyFrom 15 = .ok (.if_icmp .ge 24, 3) := by decide +kernel
theorem dX0_copyFrom_18 : decode cX0_copyFrom 18 = .ok (.aload_n 0, 1) := by decide +kernel
theorem dX0_copyFrom_19 : decode cX0_copyFrom 19 = .ok (.getfield 11, 3) := by decide +kernel
theorem dX0_copyFrom_22 : decode cX0_copyFrom 22 = .ok (.iload_n 2, 1) := by decide +kernel
theorem dX0_copyFrom_23 : decode cX0_copyFrom 23 = .ok (.aaload, 1) := by decide +kernel
theorem dX0_copyFrom_24 : decode cX0_copyFrom 24 = .ok (.aload_n 1, 1) := by decide +kernel
theorem dX0_copyFrom_25 : decode cX0_copyFrom 25 = .ok (.getfield 11, 3) := by decide +kernel
theorem dX0_copyFrom_28 : decode cX0_copyFrom 28 = .ok (.iload_n 2, 1) := by decide +kernel
theorem dX0_copyFrom_29 : decode cX0_copyFrom 29 = .ok (.aaload, 1) := by decide +kernel
theorem dX0_copyFrom_30 : decode cX0_copyFrom 30 = .ok (.invokevirtual 33, 3) := by decide +kernel
theorem dX0_copyFrom_33 : decode cX0_copyFrom 33 = .ok (.iinc 2 1, 3) := by decide +kernel
theorem dX0_copyFrom_36 : decode cX0_copyFrom 36 = .ok (.goto (-26), 3) := by decide +kernel
theorem dX0_copyFrom_39 : decode cX0_copyFrom 39 = .ok (.aload_n 0, 1) := by decide +kernel
theorem dX0_copyFrom_40 : decode cX0_copyFrom 40 = .ok (.aload_n 1, 1) := by decide +kernel
theorem dX0_copyFrom_41 : decode cX0_copyFrom 41 = .ok (.getfield 29, 3) := by decide +kernel
theorem dX0_copyFrom_44 : decode cX0_copyFrom 44 = .ok (.putfield 29, 3) := by decide +kernel
theorem dX0_copyFrom_47 : decode cX0_copyFrom 47 = .ok (.iconst 0, 1) := by decide +kernel
theorem dX0_copyFrom_48 : decode cX0_copyFrom 48 = .ok (.istore_n 2, 1) := by decide +kernel
theorem dX0_copyFrom_49 : decode cX0_copyFrom 49 = .ok (.iload_n 2, 1) := by decide +kernel
theorem dX0_copyFrom_50 : decode cX0_copyFrom 50 = .ok (.aload_n 0, 1) := by decide +kernel
theorem dX0_copyFrom_51 : decode cX0_copyFrom 51 = .ok (.getfield 29, 3) := by decide +kernel
theorem dX0_copyFrom_54 : decode cX0_copyFrom 54 = .ok (.if_icmp .ge 33, 3) := by decide +kernel
theorem dX0_copyFrom_57 : decode cX0_copyFrom 57 = .ok (.aload_n 0, 1) := by decide +kernel
theorem dX0_copyFrom_58 : decode cX0_copyFrom 58 = .ok (.getfield 21, 3) := by decide +kernel
theorem dX0_copyFrom_61 : decode cX0_copyFrom 61 = .ok (.iload_n 2, 1) := by decide +kernel
theorem dX0_copyFrom_62 : decode cX0_copyFrom 62 = .ok (.aload_n 1, 1) := by decide +kernel
theorem dX0_copyFrom_63 : decode cX0_copyFrom 63 = .ok (.getfield 21, 3) := by decide +kernel
theorem dX0_copyFrom_66 : decode cX0_copyFrom 66 = .ok (.iload_n 2, 1) := by decide +kernel
theorem dX0_copyFrom_67 : decode cX0_copyFrom 67 = .ok (.iaload, 1) := by decide +kernel
theorem dX0_copyFrom_68 : decode cX0_copyFrom 68 = .ok (.iastore, 1) := by decide +kernel
theorem dX0_copyFrom_69 : decode cX0_copyFrom 69 = .ok (.aload_n 0, 1) := by decide +kernel
theorem dX0_copyFrom_70 : decode cX0_copyFrom 70 = .ok (.getfield 25, 3) := by decide +kernel
theorem dX0_copyFrom_73 : decode cX0_copyFrom 73 = .ok (.iload_n 2, 1) := by decide +kernel
theorem dX0_copyFrom_74 : decode cX0_copyFrom 74 = .ok (.aload_n 1, 1) := by decide +kernel
theorem dX0_copyFrom_75 : decode cX0_copyFrom 75 = .ok (.getfield 25, 3) := by decide +kernel
theorem dX0_copyFrom_78 : decode cX0_copyFrom 78 = .ok (.iload_n 2, 1) := by decide +kernel
theorem dX0_copyFrom_79 : decode cX0_copyFrom 79 = .ok (.baload, 1) := by decide +kernel
theorem dX0_copyFrom_80 : decode cX0_copyFrom 80 = .ok (.bastore, 1) := by decide +kernel
theorem dX0_copyFrom_81 : decode cX0_copyFrom 81 = .ok (.iinc 2 1, 3) := by decide +kernel
theorem dX0_copyFrom_84 : decode cX0_copyFrom 84 = .ok (.goto (-35), 3) := by decide +kernel
theorem dX0_copyFrom_87 : decode cX0_copyFrom 87 = .ok (.return_, 1) := by decide +kernel
theorem dX0_hasGuard_0 : decode cX0_hasGuard 0 = .ok (.iload_n 1, 1) := by decide +kernel
theorem dX0_hasGuard_1 : decode cX0_hasGuard 1 = .ok (.ifCond .lt 15, 3) := by decide +kernel
theorem dX0_hasGuard_4 : decode cX0_hasGuard 4 = .ok (.iload_n 1, 1) := by decide +kernel
theorem dX0_hasGuard_5 : decode cX0_hasGuard 5 = .ok (.aload_n 0, 1) := by decide +kernel
theorem dX0_hasGuard_6 : decode cX0_hasGuard 6 = .ok (.getfield 17, 3) := by decide +kernel
theorem dX0_hasGuard_9 : decode cX0_hasGuard 9 = .ok (.if_icmp .ge 7, 3) := by decide +kernel
theorem dX0_hasGuard_12 : decode cX0_hasGuard 12 = .ok (.iconst 1, 1) := by decide +kernel
theorem dX0_hasGuard_13 : decode cX0_hasGuard 13 = .ok (.goto 4, 3) := by decide +kernel
theorem dX0_hasGuard_16 : decode cX0_hasGuard 16 = .ok (.iconst 0, 1) := by decide +kernel
theorem dX0_hasGuard_17 : decode cX0_hasGuard 17 = .ok (.ireturn, 1) := by decide +kernel
theorem dX0_hasVisitor_0 : decode cX0_hasVisitor 0 = .ok (.iload_n 1, 1) := by decide +kernel
theorem dX0_hasVisitor_1 : decode cX0_hasVisitor 1 = .ok (.ifCond .lt 15, 3) := by decide +kernel
theorem dX0_hasVisitor_4 : decode cX0_hasVisitor 4 = .ok (.iload_n 1, 1) := by decide +kernel
theorem dX0_hasVisitor_5 : decode cX0_hasVisitor 5 = .ok (.aload_n 0, 1) := by decide +kernel
theorem dX0_hasVisitor_6 : decode cX0_hasVisitor 6 = .ok (.getfield 29, 3) := by decide +kernel
theorem dX0_hasVisitor_9 : decode cX0_hasVisitor 9 = .ok (.if_icmp .ge 7, 3) := by decide +kernel
theorem dX0_hasVisitor_12 : decode cX0_hasVisitor 12 = .ok (.iconst 1, 1) := by decide +kernel
theorem dX0_hasVisitor_13 : decode cX0_hasVisitor 13 = .ok (.goto 4, 3) := by decide +kernel
theorem dX0_hasVisitor_16 : decode cX0_hasVisitor 16 = .ok (.iconst 0, 1) := by decide +kernel
theorem dX0_hasVisitor_17 : decode cX0_hasVisitor 17 = .ok (.ireturn, 1) := by decide +kernel
theorem dX0_addGuard_0 : decode cX0_addGuard 0 = .ok (.aload_n 0, 1) := by decide +kernel
theorem dX0_addGuard_1 : decode cX0_addGuard 1 = .ok (.getfield 11, 3) := by decide +kernel
theorem dX0_addGuard_4 : decode cX0_addGuard 4 = .ok (.aload_n 0, 1) := by decide +kernel
theorem dX0_addGuard_5 : decode cX0_addGuard 5 = .ok (.getfield 17, 3) := by decide +kernel
theorem dX0_addGuard_8 : decode cX0_addGuard 8 = .ok (.aaload, 1) := by decide +kernel
theorem dX0_addGuard_9 : decode cX0_addGuard 9 = .ok (.iload_n 1, 1) := by decide +kernel
theorem dX0_addGuard_10 : decode cX0_addGuard 10 = .ok (.invokevirtual 37, 3) := by decide +kernel
theorem dX0_addGuard_13 : decode cX0_addGuard 13 = .ok (.aload_n 0, 1) := by decide +kernel
theorem dX0_addGuard_14 : decode cX0_addGuard 14 = .ok (.dup, 1) := by decide +kernel
theorem dX0_addGuard_15 : decode cX0_addGuard 15 = .ok (.getfield 17, 3) := by decide +kernel
theorem dX0_addGuard_18 : decode cX0_addGuard 18 = .ok (.iconst 1, 1) := by decide +kernel
theorem dX0_addGuard_19 : decode cX0_addGuard 19 = .ok (.iadd, 1) := by decide +kernel
theorem dX0_addGuard_20 : decode cX0_addGuard 20 = .ok (.putfield 17, 3) := by decide +kernel
theorem dX0_addGuard_23 : decode cX0_addGuard 23 = .ok (.aload_n 0, 1) := by decide +kernel
theorem dX0_addGuard_24 : decode cX0_addGuard 24 = .ok (.getfield 17, 3) := by decide +kernel
theorem dX0_addGuard_27 : decode cX0_addGuard 27 = .ok (.iconst 1, 1) := by decide +kernel
theorem dX0_addGuard_28 : decode cX0_addGuard 28 = .ok (.isub, 1) := by decide +kernel
theorem dX0_addGuard_29 : decode cX0_addGuard 29 = .ok (.ireturn, 1) := by decide +kernel
theorem dX0_addVisitor_0 : decode cX0_addVisitor 0 = .ok (.aload_n 0, 1) := by decide +kernel
theorem dX0_addVisitor_1 : decode cX0_addVisitor 1 = .ok (.getfield 21, 3) := by decide +kernel
theorem dX0_addVisitor_4 : decode cX0_addVisitor 4 = .ok (.aload_n 0, 1) := by decide +kernel
theorem dX0_addVisitor_5 : decode cX0_addVisitor 5 = .ok (.getfield 29, 3) := by decide +kernel
theorem dX0_addVisitor_8 : decode cX0_addVisitor 8 = .ok (.iload_n 1, 1) := by decide +kernel
theorem dX0_addVisitor_9 : decode cX0_addVisitor 9 = .ok (.iastore, 1) := by decide +kernel
theorem dX0_addVisitor_10 : decode cX0_addVisitor 10 = .ok (.aload_n 0, 1) := by decide +kernel
theorem dX0_addVisitor_11 : decode cX0_addVisitor 11 = .ok (.getfield 25, 3) := by decide +kernel
theorem dX0_addVisitor_14 : decode cX0_addVisitor 14 = .ok (.aload_n 0, 1) := by decide +kernel
theorem dX0_addVisitor_15 : decode cX0_addVisitor 15 = .ok (.getfield 29, 3) := by decide +kernel
theorem dX0_addVisitor_18 : decode cX0_addVisitor 18 = .ok (.iload_n 2, 1) := by decide +kernel
theorem dX0_addVisitor_19 : decode cX0_addVisitor 19 = .ok (.bastore, 1) := by decide +kernel
theorem dX0_addVisitor_20 : decode cX0_addVisitor 20 = .ok (.aload_n 0, 1) := by decide +kernel
theorem dX0_addVisitor_21 : decode cX0_addVisitor 21 = .ok (.dup, 1) := by decide +kernel
theorem dX0_addVisitor_22 : decode cX0_addVisitor 22 = .ok (.getfield 29, 3) := by decide +kernel
theorem dX0_addVisitor_25 : decode cX0_addVisitor 25 = .ok (.iconst 1, 1) := by decide +kernel
theorem dX0_addVisitor_26 : decode cX0_addVisitor 26 = .ok (.iadd, 1) := by decide +kernel
theorem dX0_addVisitor_27 : decode cX0_addVisitor 27 = .ok (.putfield 29, 3) := by decide +kernel
theorem dX0_addVisitor_30 : decode cX0_addVisitor 30 = .ok (.aload_n 0, 1) := by decide +kernel
theorem dX0_addVisitor_31 : decode cX0_addVisitor 31 = .ok (.getfield 29, 3) := by decide +kernel
theorem dX0_addVisitor_34 : decode cX0_addVisitor 34 = .ok (.iconst 1, 1) := by decide +kernel
theorem dX0_addVisitor_35 : decode cX0_addVisitor 35 = .ok (.isub, 1) := by decide +kernel
theorem dX0_addVisitor_36 : decode cX0_addVisitor 36 = .ok (.ireturn, 1) := by decide +kernel
theorem dX0_removeVisitor_0 : decode cX0_removeVisitor 0 = .ok (.aload_n 0, 1) := by decide +kernel
theorem dX0_removeVisitor_1 : decode cX0_removeVisitor 1 = .ok (.dup, 1) := by decide +kernel
theorem dX0_removeVisitor_2 : decode cX0_removeVisitor 2 = .ok (.getfield 29, 3) := by decide +kernel
theorem dX0_removeVisitor_5 : decode cX0_removeVisitor 5 = .ok (.iconst 1, 1) := by decide +kernel
theorem dX0_removeVisitor_6 : decode cX0_removeVisitor 6 = .ok (.isub, 1) := by decide +kernel
theorem dX0_removeVisitor_7 : decode cX0_removeVisitor 7 = .ok (.putfield 29, 3) := by decide +kernel
theorem dX0_removeVisitor_10 : decode cX0_removeVisitor 10 = .ok (.iload_n 1, 1) := by decide +kernel
theorem dX0_removeVisitor_11 : decode cX0_removeVisitor 11 = .ok (.istore_n 2, 1) := by decide +kernel
theorem dX0_removeVisitor_12 : decode cX0_removeVisitor 12 = .ok (.iload_n 2, 1) := by decide +kernel
theorem dX0_removeVisitor_13 : decode cX0_removeVisitor 13 = .ok (.aload_n 0, 1) := by decide +kernel
theorem dX0_removeVisitor_14 : decode cX0_removeVisitor 14 = .ok (.getfield 29, 3) := by decide +kernel
theorem dX0_removeVisitor_17 : decode cX0_removeVisitor 17 = .ok (.if_icmp .ge 37, 3) := by decide +kernel
theorem dX0_removeVisitor_20 : decode cX0_removeVisitor 20 = .ok (.aload_n 0, 1) := by decide +kernel
theorem dX0_removeVisitor_21 : decode cX0_removeVisitor 21 = .ok (.getfield 21, 3) := by decide +kernel
theorem dX0_removeVisitor_24 : decode cX0_removeVisitor 24 = .ok (.iload_n 2, 1) := by decide +kernel
theorem dX0_removeVisitor_25 : decode cX0_removeVisitor 25 = .ok (.aload_n 0, 1) := by decide +kernel
theorem dX0_removeVisitor_26 : decode cX0_removeVisitor 26 = .ok (.getfield 21, 3) := by decide +kernel
theorem dX0_removeVisitor_29 : decode cX0_removeVisitor 29 = .ok (.iload_n 2, 1) := by decide +kernel
theorem dX0_removeVisitor_30 : decode cX0_removeVisitor 30 = .ok (.iconst 1, 1) := by decide +kernel
theorem dX0_removeVisitor_31 : decode cX0_removeVisitor 31 = .ok (.iadd, 1) := by decide +kernel
theorem dX0_removeVisitor_32 : decode cX0_removeVisitor 32 = .ok (.iaload, 1) := by decide +kernel
theorem dX0_removeVisitor_33 : decode cX0_removeVisitor 33 = .ok (.iastore, 1) := by decide +kernel
theorem dX0_removeVisitor_34 : decode cX0_removeVisitor 34 = .ok (.aload_n 0, 1) := by decide +kernel
theorem dX0_removeVisitor_35 : decode cX0_removeVisitor 35 = .ok (.getfield 25, 3) := by decide +kernel
theorem dX0_removeVisitor_38 : decode cX0_removeVisitor 38 = .ok (.iload_n 2, 1) := by decide +kernel
theorem dX0_removeVisitor_39 : decode cX0_removeVisitor 39 = .ok (.aload_n 0, 1) := by decide +kernel
theorem dX0_removeVisitor_40 : decode cX0_removeVisitor 40 = .ok (.getfield 25, 3) := by decide +kernel
theorem dX0_removeVisitor_43 : decode cX0_removeVisitor 43 = .ok (.iload_n 2, 1) := by decide +kernel
theorem dX0_removeVisitor_44 : decode cX0_removeVisitor 44 = .ok (.iconst 1, 1) := by decide +kernel
theorem dX0_removeVisitor_45 : decode cX0_removeVisitor 45 = .ok (.iadd, 1) := by decide +kernel
theorem dX0_removeVisitor_46 : decode cX0_removeVisitor 46 = .ok (.baload, 1) := by decide +kernel
theorem dX0_removeVisitor_47 : decode cX0_removeVisitor 47 = .ok (.bastore, 1) := by decide +kernel
theorem dX0_removeVisitor_48 : decode cX0_removeVisitor 48 = .ok (.iinc 2 1, 3) := by decide +kernel
theorem dX0_removeVisitor_51 : decode cX0_removeVisitor 51 = .ok (.goto (-39), 3) := by decide +kernel
theorem dX0_removeVisitor_54 : decode cX0_removeVisitor 54 = .ok (.aload_n 0, 1) := by decide +kernel
theorem dX0_removeVisitor_55 : decode cX0_removeVisitor 55 = .ok (.getfield 29, 3) := by decide +kernel
theorem dX0_removeVisitor_58 : decode cX0_removeVisitor 58 = .ok (.ireturn, 1) := by decide +kernel
theorem dX0_visitorWith_0 : decode cX0_visitorWith 0 = .ok (.iconst 0, 1) := by decide +kernel
theorem dX0_visitorWith_1 : decode cX0_visitorWith 1 = .ok (.istore_n 2, 1) := by decide +kernel
theorem dX0_visitorWith_2 : decode cX0_visitorWith 2 = .ok (.iload_n 2, 1) := by decide +kernel
theorem dX0_visitorWith_3 : decode cX0_visitorWith 3 = .ok (.aload_n 0, 1) := by decide +kernel
theorem dX0_visitorWith_4 : decode cX0_visitorWith 4 = .ok (.getfield 29, 3) := by decide +kernel
theorem dX0_visitorWith_7 : decode cX0_visitorWith 7 = .ok (.if_icmp .ge 21, 3) := by decide +kernel
theorem dX0_visitorWith_10 : decode cX0_visitorWith 10 = .ok (.aload_n 0, 1) := by decide +kernel
theorem dX0_visitorWith_11 : decode cX0_visitorWith 11 = .ok (.getfield 21, 3) := by decide +kernel
theorem dX0_visitorWith_14 : decode cX0_visitorWith 14 = .ok (.iload_n 2, 1) := by decide +kernel
theorem dX0_visitorWith_15 : decode cX0_visitorWith 15 = .ok (.iaload, 1) := by decide +kernel
theorem dX0_visitorWith_16 : decode cX0_visitorWith 16 = .ok (.iload_n 1, 1) := by decide +kernel
theorem dX0_visitorWith_17 : decode cX0_visitorWith 17 = .ok (.if_icmp .ne 5, 3) := by decide +kernel
theorem dX0_visitorWith_20 : decode cX0_visitorWith 20 = .ok (.iload_n 2, 1) := by decide +kernel
theorem dX0_visitorWith_21 : decode cX0_visitorWith 21 = .ok (.ireturn, 1) := by decide +kernel
theorem dX0_visitorWith_22 : decode cX0_visitorWith 22 = .ok (.iinc 2 1, 3) := by decide +kernel
theorem dX0_visitorWith_25 : decode cX0_visitorWith 25 = .ok (.goto (-23), 3) := by decide +kernel
theorem dX0_visitorWith_28 : decode cX0_visitorWith 28 = .ok (.iconst (-1), 1) := by decide +kernel
theorem dX0_visitorWith_29 : decode cX0_visitorWith 29 = .ok (.ireturn, 1) := by decide +kernel
theorem dX0_placeAmongLike_0 : decode cX0_placeAmongLike 0 = .ok (.iconst 0, 1) := by decide +kernel
theorem dX0_placeAmongLike_1 : decode cX0_placeAmongLike 1 = .ok (.istore_n 2, 1) := by decide +kernel
theorem dX0_placeAmongLike_2 : decode cX0_placeAmongLike 2 = .ok (.iconst 0, 1) := by decide +kernel
theorem dX0_placeAmongLike_3 : decode cX0_placeAmongLike 3 = .ok (.istore_n 3, 1) := by decide +kernel
theorem dX0_placeAmongLike_4 : decode cX0_placeAmongLike 4 = .ok (.iload_n 3, 1) := by decide +kernel
theorem dX0_placeAmongLike_5 : decode cX0_placeAmongLike 5 = .ok (.iload_n 1, 1) := by decide +kernel
theorem dX0_placeAmongLike_6 : decode cX0_placeAmongLike 6 = .ok (.if_icmp .ge 27, 3) := by decide +kernel
theorem dX0_placeAmongLike_9 : decode cX0_placeAmongLike 9 = .ok (.aload_n 0, 1) := by decide +kernel
theorem dX0_placeAmongLike_10 : decode cX0_placeAmongLike 10 = .ok (.getfield 25, 3) := by decide +kernel
theorem dX0_placeAmongLike_13 : decode cX0_placeAmongLike 13 = .ok (.iload_n 3, 1) := by decide +kernel
theorem dX0_placeAmongLike_14 : decode cX0_placeAmongLike 14 = .ok (.baload, 1) := by decide +kernel
theorem dX0_placeAmongLike_15 : decode cX0_placeAmongLike 15 = .ok (.aload_n 0, 1) := by decide +kernel
theorem dX0_placeAmongLike_16 : decode cX0_placeAmongLike 16 = .ok (.getfield 25, 3) := by decide +kernel
theorem dX0_placeAmongLike_19 : decode cX0_placeAmongLike 19 = .ok (.iload_n 1, 1) := by decide +kernel
theorem dX0_placeAmongLike_20 : decode cX0_placeAmongLike 20 = .ok (.baload, 1) := by decide +kernel
theorem dX0_placeAmongLike_21 : decode cX0_placeAmongLike 21 = .ok (.if_icmp .ne 6, 3) := by decide +kernel
theorem dX0_placeAmongLike_24 : decode cX0_placeAmongLike 24 = .ok (.iinc 2 1, 3) := by decide +kernel
theorem dX0_placeAmongLike_27 : decode cX0_placeAmongLike 27 = .ok (.iinc 3 1, 3) := by decide +kernel
theorem dX0_placeAmongLike_30 : decode cX0_placeAmongLike 30 = .ok (.goto (-26), 3) := by decide +kernel
theorem dX0_placeAmongLike_33 : decode cX0_placeAmongLike 33 = .ok (.iload_n 2, 1) := by decide +kernel
theorem dX0_placeAmongLike_34 : decode cX0_placeAmongLike 34 = .ok (.ireturn, 1) := by decide +kernel
theorem dX0_countOf_0 : decode cX0_countOf 0 = .ok (.iconst 0, 1) := by decide +kernel
theorem dX0_countOf_1 : decode cX0_countOf 1 = .ok (.istore_n 2, 1) := by decide +kernel
theorem dX0_countOf_2 : decode cX0_countOf 2 = .ok (.iconst 0, 1) := by decide +kernel
theorem dX0_countOf_3 : decode cX0_countOf 3 = .ok (.istore_n 3, 1) := by decide +kernel
theorem dX0_countOf_4 : decode cX0_countOf 4 = .ok (.iload_n 3, 1) := by decide +kernel
theorem dX0_countOf_5 : decode cX0_countOf 5 = .ok (.aload_n 0, 1) := by decide +kernel
theorem dX0_countOf_6 : decode cX0_countOf 6 = .ok (.getfield 29, 3) := by decide +kernel
theorem dX0_countOf_9 : decode cX0_countOf 9 = .ok (.if_icmp .ge 22, 3) := by decide +kernel
theorem dX0_countOf_12 : decode cX0_countOf 12 = .ok (.aload_n 0, 1) := by decide +kernel
theorem dX0_countOf_13 : decode cX0_countOf 13 = .ok (.getfield 25, 3) := by decide +kernel
theorem dX0_countOf_16 : decode cX0_countOf 16 = .ok (.iload_n 3, 1) := by decide +kernel
theorem dX0_countOf_17 : decode cX0_countOf 17 = .ok (.baload, 1) := by decide +kernel
theorem dX0_countOf_18 : decode cX0_countOf 18 = .ok (.iload_n 1, 1) := by decide +kernel
theorem dX0_countOf_19 : decode cX0_countOf 19 = .ok (.if_icmp .ne 6, 3) := by decide +kernel
theorem dX0_countOf_22 : decode cX0_countOf 22 = .ok (.iinc 2 1, 3) := by decide +kernel
theorem dX0_countOf_25 : decode cX0_countOf 25 = .ok (.iinc 3 1, 3) := by decide +kernel
theorem dX0_countOf_28 : decode cX0_countOf 28 = .ok (.goto (-24), 3) := by decide +kernel
theorem dX0_countOf_31 : decode cX0_countOf 31 = .ok (.iload_n 2, 1) := by decide +kernel
theorem dX0_countOf_32 : decode cX0_countOf 32 = .ok (.ireturn, 1) := by decide +kernel
theorem dX0_isMistaken_0 : decode cX0_isMistaken 0 = .ok (.aload_n 0, 1) := by decide +kernel
theorem dX0_isMistaken_1 : decode cX0_isMistaken 1 = .ok (.getfield 11, 3) := by decide +kernel
theorem dX0_isMistaken_4 : decode cX0_isMistaken 4 = .ok (.iload_n 1, 1) := by decide +kernel
theorem dX0_isMistaken_5 : decode cX0_isMistaken 5 = .ok (.aaload, 1) := by decide +kernel
theorem dX0_isMistaken_6 : decode cX0_isMistaken 6 = .ok (.aload_n 0, 1) := by decide +kernel
theorem dX0_isMistaken_7 : decode cX0_isMistaken 7 = .ok (.getfield 21, 3) := by decide +kernel
theorem dX0_isMistaken_10 : decode cX0_isMistaken 10 = .ok (.iload_n 2, 1) := by decide +kernel
theorem dX0_isMistaken_11 : decode cX0_isMistaken 11 = .ok (.iaload, 1) := by decide +kernel
theorem dX0_isMistaken_12 : decode cX0_isMistaken 12 = .ok (.invokevirtual 41, 3) := by decide +kernel
theorem dX0_isMistaken_15 : decode cX0_isMistaken 15 = .ok (.aload_n 0, 1) := by decide +kernel
theorem dX0_isMistaken_16 : decode cX0_isMistaken 16 = .ok (.getfield 25, 3) := by decide +kernel
theorem dX0_isMistaken_19 : decode cX0_isMistaken 19 = .ok (.iload_n 2, 1) := by decide +kernel
theorem dX0_isMistaken_20 : decode cX0_isMistaken 20 = .ok (.baload, 1) := by decide +kernel
theorem dX0_isMistaken_21 : decode cX0_isMistaken 21 = .ok (.if_icmp .eq 7, 3) := by decide +kernel
theorem dX0_isMistaken_24 : decode cX0_isMistaken 24 = .ok (.iconst 1, 1) := by decide +kernel
theorem dX0_isMistaken_25 : decode cX0_isMistaken 25 = .ok (.goto 4, 3) := by decide +kernel
theorem dX0_isMistaken_28 : decode cX0_isMistaken 28 = .ok (.iconst 0, 1) := by decide +kernel
theorem dX0_isMistaken_29 : decode cX0_isMistaken 29 = .ok (.ireturn, 1) := by decide +kernel
theorem dX0_guardsMistakenAbout_0 : decode cX0_guardsMistakenAbout 0 = .ok (.iconst 0, 1) := by decide +kernel
theorem dX0_guardsMistakenAbout_1 : decode cX0_guardsMistakenAbout 1 = .ok (.istore_n 2, 1) := by decide +kernel
theorem dX0_guardsMistakenAbout_2 : decode cX0_guardsMistakenAbout 2 = .ok (.iconst 0, 1) := by decide +kernel
theorem dX0_guardsMistakenAbout_3 : decode cX0_guardsMistakenAbout 3 = .ok (.istore_n 3, 1) := by decide +kernel
theorem dX0_guardsMistakenAbout_4 : decode cX0_guardsMistakenAbout 4 = .ok (.iload_n 3, 1) := by decide +kernel
theorem dX0_guardsMistakenAbout_5 : decode cX0_guardsMistakenAbout 5 = .ok (.aload_n 0, 1) := by decide +kernel
theorem dX0_guardsMistakenAbout_6 : decode cX0_guardsMistakenAbout 6 = .ok (.getfield 17, 3) := by decide +kernel
theorem dX0_guardsMistakenAbout_9 : decode cX0_guardsMistakenAbout 9 = .ok (.if_icmp .ge 21, 3) := by decide +kernel
theorem dX0_guardsMistakenAbout_12 : decode cX0_guardsMistakenAbout 12 = .ok (.aload_n 0, 1) := by decide +kernel
theorem dX0_guardsMistakenAbout_13 : decode cX0_guardsMistakenAbout 13 = .ok (.iload_n 3, 1) := by decide +kernel
theorem dX0_guardsMistakenAbout_14 : decode cX0_guardsMistakenAbout 14 = .ok (.iload_n 1, 1) := by decide +kernel
theorem dX0_guardsMistakenAbout_15 : decode cX0_guardsMistakenAbout 15 = .ok (.invokevirtual 45, 3) := by decide +kernel
theorem dX0_guardsMistakenAbout_18 : decode cX0_guardsMistakenAbout 18 = .ok (.ifCond .eq 6, 3) := by decide +kernel
theorem dX0_guardsMistakenAbout_21 : decode cX0_guardsMistakenAbout 21 = .ok (.iinc 2 1, 3) := by decide +kernel
theorem dX0_guardsMistakenAbout_24 : decode cX0_guardsMistakenAbout 24 = .ok (.iinc 3 1, 3) := by decide +kernel
theorem dX0_guardsMistakenAbout_27 : decode cX0_guardsMistakenAbout 27 = .ok (.goto (-23), 3) := by decide +kernel
theorem dX0_guardsMistakenAbout_30 : decode cX0_guardsMistakenAbout 30 = .ok (.iload_n 2, 1) := by decide +kernel
theorem dX0_guardsMistakenAbout_31 : decode cX0_guardsMistakenAbout 31 = .ok (.ireturn, 1) := by decide +kernel
theorem dX0_mistakesOf_0 : decode cX0_mistakesOf 0 = .ok (.iconst 0, 1) := by decide +kernel
theorem dX0_mistakesOf_1 : decode cX0_mistakesOf 1 = .ok (.istore_n 2, 1) := by decide +kernel
theorem dX0_mistakesOf_2 : decode cX0_mistakesOf 2 = .ok (.iconst 0, 1) := by decide +kernel
theorem dX0_mistakesOf_3 : decode cX0_mistakesOf 3 = .ok (.istore_n 3, 1) := by decide +kernel
theorem dX0_mistakesOf_4 : decode cX0_mistakesOf 4 = .ok (.iload_n 3, 1) := by decide +kernel
theorem dX0_mistakesOf_5 : decode cX0_mistakesOf 5 = .ok (.aload_n 0, 1) := by decide +kernel
theorem dX0_mistakesOf_6 : decode cX0_mistakesOf 6 = .ok (.getfield 29, 3) := by decide +kernel
theorem dX0_mistakesOf_9 : decode cX0_mistakesOf 9 = .ok (.if_icmp .ge 21, 3) := by decide +kernel
theorem dX0_mistakesOf_12 : decode cX0_mistakesOf 12 = .ok (.aload_n 0, 1) := by decide +kernel
theorem dX0_mistakesOf_13 : decode cX0_mistakesOf 13 = .ok (.iload_n 1, 1) := by decide +kernel
theorem dX0_mistakesOf_14 : decode cX0_mistakesOf 14 = .ok (.iload_n 3, 1) := by decide +kernel
theorem dX0_mistakesOf_15 : decode cX0_mistakesOf 15 = .ok (.invokevirtual 45, 3) := by decide +kernel
theorem dX0_mistakesOf_18 : decode cX0_mistakesOf 18 = .ok (.ifCond .eq 6, 3) := by decide +kernel
theorem dX0_mistakesOf_21 : decode cX0_mistakesOf 21 = .ok (.iinc 2 1, 3) := by decide +kernel
theorem dX0_mistakesOf_24 : decode cX0_mistakesOf 24 = .ok (.iinc 3 1, 3) := by decide +kernel
theorem dX0_mistakesOf_27 : decode cX0_mistakesOf 27 = .ok (.goto (-23), 3) := by decide +kernel
theorem dX0_mistakesOf_30 : decode cX0_mistakesOf 30 = .ok (.iload_n 2, 1) := by decide +kernel
theorem dX0_mistakesOf_31 : decode cX0_mistakesOf 31 = .ok (.ireturn, 1) := by decide +kernel
theorem dX0_mistakesOfAll_0 : decode cX0_mistakesOfAll 0 = .ok (.iconst 0, 1) := by decide +kernel
theorem dX0_mistakesOfAll_1 : decode cX0_mistakesOfAll 1 = .ok (.istore_n 1, 1) := by decide +kernel
theorem dX0_mistakesOfAll_2 : decode cX0_mistakesOfAll 2 = .ok (.iconst 0, 1) := by decide +kernel
theorem dX0_mistakesOfAll_3 : decode cX0_mistakesOfAll 3 = .ok (.istore_n 2, 1) := by decide +kernel
theorem dX0_mistakesOfAll_4 : decode cX0_mistakesOfAll 4 = .ok (.iload_n 2, 1) := by decide +kernel
theorem dX0_mistakesOfAll_5 : decode cX0_mistakesOfAll 5 = .ok (.aload_n 0, 1) := by decide +kernel
theorem dX0_mistakesOfAll_6 : decode cX0_mistakesOfAll 6 = .ok (.getfield 17, 3) := by decide +kernel
theorem dX0_mistakesOfAll_9 : decode cX0_mistakesOfAll 9 = .ok (.if_icmp .ge 17, 3) := by decide +kernel
theorem dX0_mistakesOfAll_12 : decode cX0_mistakesOfAll 12 = .ok (.iload_n 1, 1) := by decide +kernel
theorem dX0_mistakesOfAll_13 : decode cX0_mistakesOfAll 13 = .ok (.aload_n 0, 1) := by decide +kernel
theorem dX0_mistakesOfAll_14 : decode cX0_mistakesOfAll 14 = .ok (.iload_n 2, 1) := by decide +kernel
theorem dX0_mistakesOfAll_15 : decode cX0_mistakesOfAll 15 = .ok (.invokevirtual 49, 3) := by decide +kernel
theorem dX0_mistakesOfAll_18 : decode cX0_mistakesOfAll 18 = .ok (.iadd, 1) := by decide +kernel
theorem dX0_mistakesOfAll_19 : decode cX0_mistakesOfAll 19 = .ok (.istore_n 1, 1) := by decide +kernel
theorem dX0_mistakesOfAll_20 : decode cX0_mistakesOfAll 20 = .ok (.iinc 2 1, 3) := by decide +kernel
theorem dX0_mistakesOfAll_23 : decode cX0_mistakesOfAll 23 = .ok (.goto (-19), 3) := by decide +kernel
theorem dX0_mistakesOfAll_26 : decode cX0_mistakesOfAll 26 = .ok (.iload_n 1, 1) := by decide +kernel
theorem dX0_mistakesOfAll_27 : decode cX0_mistakesOfAll 27 = .ok (.ireturn, 1) := by decide +kernel
theorem dX0_daysOfAll_0 : decode cX0_daysOfAll 0 = .ok (.iconst 0, 1) := by decide +kernel
theorem dX0_daysOfAll_1 : decode cX0_daysOfAll 1 = .ok (.istore_n 1, 1) := by decide +kernel
theorem dX0_daysOfAll_2 : decode cX0_daysOfAll 2 = .ok (.iconst 0, 1) := by decide +kernel
theorem dX0_daysOfAll_3 : decode cX0_daysOfAll 3 = .ok (.istore_n 2, 1) := by decide +kernel
theorem dX0_daysOfAll_4 : decode cX0_daysOfAll 4 = .ok (.iload_n 2, 1) := by decide +kernel
theorem dX0_daysOfAll_5 : decode cX0_daysOfAll 5 = .ok (.aload_n 0, 1) := by decide +kernel
theorem dX0_daysOfAll_6 : decode cX0_daysOfAll 6 = .ok (.getfield 17, 3) := by decide +kernel
theorem dX0_daysOfAll_9 : decode cX0_daysOfAll 9 = .ok (.if_icmp .ge 21, 3) := by decide +kernel
theorem dX0_daysOfAll_12 : decode cX0_daysOfAll 12 = .ok (.iload_n 1, 1) := by decide +kernel
theorem dX0_daysOfAll_13 : decode cX0_daysOfAll 13 = .ok (.aload_n 0, 1) := by decide +kernel
theorem dX0_daysOfAll_14 : decode cX0_daysOfAll 14 = .ok (.getfield 11, 3) := by decide +kernel
theorem dX0_daysOfAll_17 : decode cX0_daysOfAll 17 = .ok (.iload_n 2, 1) := by decide +kernel
theorem dX0_daysOfAll_18 : decode cX0_daysOfAll 18 = .ok (.aaload, 1) := by decide +kernel
theorem dX0_daysOfAll_19 : decode cX0_daysOfAll 19 = .ok (.getfield 53, 3) := by decide +kernel
theorem dX0_daysOfAll_22 : decode cX0_daysOfAll 22 = .ok (.iadd, 1) := by decide +kernel
theorem dX0_daysOfAll_23 : decode cX0_daysOfAll 23 = .ok (.istore_n 1, 1) := by decide +kernel
theorem dX0_daysOfAll_24 : decode cX0_daysOfAll 24 = .ok (.iinc 2 1, 3) := by decide +kernel
theorem dX0_daysOfAll_27 : decode cX0_daysOfAll 27 = .ok (.goto (-23), 3) := by decide +kernel
theorem dX0_daysOfAll_30 : decode cX0_daysOfAll 30 = .ok (.iload_n 1, 1) := by decide +kernel
theorem dX0_daysOfAll_31 : decode cX0_daysOfAll 31 = .ok (.ireturn, 1) := by decide +kernel
theorem dX0_pushesOfAll_0 : decode cX0_pushesOfAll 0 = .ok (.iconst 0, 1) := by decide +kernel
theorem dX0_pushesOfAll_1 : decode cX0_pushesOfAll 1 = .ok (.istore_n 1, 1) := by decide +kernel
theorem dX0_pushesOfAll_2 : decode cX0_pushesOfAll 2 = .ok (.iconst 0, 1) := by decide +kernel
theorem dX0_pushesOfAll_3 : decode cX0_pushesOfAll 3 = .ok (.istore_n 2, 1) := by decide +kernel
theorem dX0_pushesOfAll_4 : decode cX0_pushesOfAll 4 = .ok (.iload_n 2, 1) := by decide +kernel
theorem dX0_pushesOfAll_5 : decode cX0_pushesOfAll 5 = .ok (.aload_n 0, 1) := by decide +kernel
theorem dX0_pushesOfAll_6 : decode cX0_pushesOfAll 6 = .ok (.getfield 17, 3) := by decide +kernel
theorem dX0_pushesOfAll_9 : decode cX0_pushesOfAll 9 = .ok (.if_icmp .ge 21, 3) := by decide +kernel
theorem dX0_pushesOfAll_12 : decode cX0_pushesOfAll 12 = .ok (.iload_n 1, 1) := by decide +kernel
theorem dX0_pushesOfAll_13 : decode cX0_pushesOfAll 13 = .ok (.aload_n 0, 1) := by decide +kernel
theorem dX0_pushesOfAll_14 : decode cX0_pushesOfAll 14 = .ok (.getfield 11, 3) := by decide +kernel
theorem dX0_pushesOfAll_17 : decode cX0_pushesOfAll 17 = .ok (.iload_n 2, 1) := by decide +kernel
theorem dX0_pushesOfAll_18 : decode cX0_pushesOfAll 18 = .ok (.aaload, 1) := by decide +kernel
theorem dX0_pushesOfAll_19 : decode cX0_pushesOfAll 19 = .ok (.getfield 56, 3) := by decide +kernel
theorem dX0_pushesOfAll_22 : decode cX0_pushesOfAll 22 = .ok (.iadd, 1) := by decide +kernel
theorem dX0_pushesOfAll_23 : decode cX0_pushesOfAll 23 = .ok (.istore_n 1, 1) := by decide +kernel
theorem dX0_pushesOfAll_24 : decode cX0_pushesOfAll 24 = .ok (.iinc 2 1, 3) := by decide +kernel
theorem dX0_pushesOfAll_27 : decode cX0_pushesOfAll 27 = .ok (.goto (-23), 3) := by decide +kernel
theorem dX0_pushesOfAll_30 : decode cX0_pushesOfAll 30 = .ok (.iload_n 1, 1) := by decide +kernel
theorem dX0_pushesOfAll_31 : decode cX0_pushesOfAll 31 = .ok (.ireturn, 1) := by decide +kernel
theorem dX0_knowing_0 : decode cX0_knowing 0 = .ok (.aload_n 0, 1) := by decide +kernel
theorem dX0_knowing_1 : decode cX0_knowing 1 = .ok (.getfield 11, 3) := by decide +kernel
theorem dX0_knowing_4 : decode cX0_knowing 4 = .ok (.iload_n 1, 1) := by decide +kernel
theorem dX0_knowing_5 : decode cX0_knowing 5 = .ok (.aaload, 1) := by decide +kernel
theorem dX0_knowing_6 : decode cX0_knowing 6 = .ok (.aload_n 0, 1) := by decide +kernel
theorem dX0_knowing_7 : decode cX0_knowing 7 = .ok (.getfield 21, 3) := by decide +kernel
theorem dX0_knowing_10 : decode cX0_knowing 10 = .ok (.iload_n 2, 1) := by decide +kernel
theorem dX0_knowing_11 : decode cX0_knowing 11 = .ok (.iaload, 1) := by decide +kernel
theorem dX0_knowing_12 : decode cX0_knowing 12 = .ok (.invokevirtual 59, 3) := by decide +kernel
theorem dX0_knowing_15 : decode cX0_knowing 15 = .ok (.fstore_n 3, 1) := by decide +kernel
theorem dX0_knowing_16 : decode cX0_knowing 16 = .ok (.aload_n 0, 1) := by decide +kernel
theorem dX0_knowing_17 : decode cX0_knowing 17 = .ok (.getfield 25, 3) := by decide +kernel
theorem dX0_knowing_20 : decode cX0_knowing 20 = .ok (.iload_n 2, 1) := by decide +kernel
theorem dX0_knowing_21 : decode cX0_knowing 21 = .ok (.baload, 1) := by decide +kernel
theorem dX0_knowing_22 : decode cX0_knowing 22 = .ok (.ifCond .eq 7, 3) := by decide +kernel
theorem dX0_knowing_25 : decode cX0_knowing 25 = .ok (.fload_n 3, 1) := by decide +kernel
theorem dX0_knowing_26 : decode cX0_knowing 26 = .ok (.goto 6, 3) := by decide +kernel
theorem dX0_knowing_29 : decode cX0_knowing 29 = .ok (.fconst 0, 1) := by decide +kernel
theorem dX0_knowing_30 : decode cX0_knowing 30 = .ok (.fload_n 3, 1) := by decide +kernel
theorem dX0_knowing_31 : decode cX0_knowing 31 = .ok (.fsub, 1) := by decide +kernel
theorem dX0_knowing_32 : decode cX0_knowing 32 = .ok (.freturn, 1) := by decide +kernel
theorem dX0_votesFor_0 : decode cX0_votesFor 0 = .ok (.iconst 0, 1) := by decide +kernel
theorem dX0_votesFor_1 : decode cX0_votesFor 1 = .ok (.istore_n 2, 1) := by decide +kernel
theorem dX0_votesFor_2 : decode cX0_votesFor 2 = .ok (.iconst 0, 1) := by decide +kernel
theorem dX0_votesFor_3 : decode cX0_votesFor 3 = .ok (.istore_n 3, 1) := by decide +kernel
theorem dX0_votesFor_4 : decode cX0_votesFor 4 = .ok (.iload_n 3, 1) := by decide +kernel
theorem dX0_votesFor_5 : decode cX0_votesFor 5 = .ok (.aload_n 0, 1) := by decide +kernel
theorem dX0_votesFor_6 : decode cX0_votesFor 6 = .ok (.getfield 17, 3) := by decide +kernel
theorem dX0_votesFor_9 : decode cX0_votesFor 9 = .ok (.if_icmp .ge 25, 3) := by decide +kernel
theorem dX0_votesFor_12 : decode cX0_votesFor 12 = .ok (.aload_n 0, 1) := by decide +kernel
theorem dX0_votesFor_13 : decode cX0_votesFor 13 = .ok (.getfield 11, 3) := by decide +kernel
theorem dX0_votesFor_16 : decode cX0_votesFor 16 = .ok (.iload_n 3, 1) := by decide +kernel
theorem dX0_votesFor_17 : decode cX0_votesFor 17 = .ok (.aaload, 1) := by decide +kernel
theorem dX0_votesFor_18 : decode cX0_votesFor 18 = .ok (.iload_n 1, 1) := by decide +kernel
theorem dX0_votesFor_19 : decode cX0_votesFor 19 = .ok (.invokevirtual 41, 3) := by decide +kernel
theorem dX0_votesFor_22 : decode cX0_votesFor 22 = .ok (.ifCond .eq 6, 3) := by decide +kernel
theorem dX0_votesFor_25 : decode cX0_votesFor 25 = .ok (.iinc 2 1, 3) := by decide +kernel
theorem dX0_votesFor_28 : decode cX0_votesFor 28 = .ok (.iinc 3 1, 3) := by decide +kernel
theorem dX0_votesFor_31 : decode cX0_votesFor 31 = .ok (.goto (-27), 3) := by decide +kernel
theorem dX0_votesFor_34 : decode cX0_votesFor 34 = .ok (.iload_n 2, 1) := by decide +kernel
theorem dX0_votesFor_35 : decode cX0_votesFor 35 = .ok (.ireturn, 1) := by decide +kernel
theorem dX0_admitsByVote_0 : decode cX0_admitsByVote 0 = .ok (.aload_n 0, 1) := by decide +kernel
theorem dX0_admitsByVote_1 : decode cX0_admitsByVote 1 = .ok (.iload_n 1, 1) := by decide +kernel
theorem dX0_admitsByVote_2 : decode cX0_admitsByVote 2 = .ok (.invokevirtual 63, 3) := by decide +kernel
theorem dX0_admitsByVote_5 : decode cX0_admitsByVote 5 = .ok (.istore_n 2, 1) := by decide +kernel
theorem dX0_admitsByVote_6 : decode cX0_admitsByVote 6 = .ok (.iload_n 2, 1) := by decide +kernel
theorem dX0_admitsByVote_7 : decode cX0_admitsByVote 7 = .ok (.aload_n 0, 1) := by decide +kernel
theorem dX0_admitsByVote_8 : decode cX0_admitsByVote 8 = .ok (.getfield 17, 3) := by decide +kernel
theorem dX0_admitsByVote_11 : decode cX0_admitsByVote 11 = .ok (.iload_n 2, 1) := by decide +kernel
theorem dX0_admitsByVote_12 : decode cX0_admitsByVote 12 = .ok (.isub, 1) := by decide +kernel
theorem dX0_admitsByVote_13 : decode cX0_admitsByVote 13 = .ok (.if_icmp .le 7, 3) := by decide +kernel
theorem dX0_admitsByVote_16 : decode cX0_admitsByVote 16 = .ok (.iconst 1, 1) := by decide +kernel
theorem dX0_admitsByVote_17 : decode cX0_admitsByVote 17 = .ok (.goto 4, 3) := by decide +kernel
theorem dX0_admitsByVote_20 : decode cX0_admitsByVote 20 = .ok (.iconst 0, 1) := by decide +kernel
theorem dX0_admitsByVote_21 : decode cX0_admitsByVote 21 = .ok (.ireturn, 1) := by decide +kernel
theorem dX0_guardsAheadOf_0 : decode cX0_guardsAheadOf 0 = .ok (.iconst 0, 1) := by decide +kernel
theorem dX0_guardsAheadOf_1 : decode cX0_guardsAheadOf 1 = .ok (.istore_n 2, 1) := by decide +kernel
theorem dX0_guardsAheadOf_2 : decode cX0_guardsAheadOf 2 = .ok (.iconst 0, 1) := by decide +kernel
theorem dX0_guardsAheadOf_3 : decode cX0_guardsAheadOf 3 = .ok (.istore_n 3, 1) := by decide +kernel
theorem dX0_guardsAheadOf_4 : decode cX0_guardsAheadOf 4 = .ok (.iload_n 3, 1) := by decide +kernel
theorem dX0_guardsAheadOf_5 : decode cX0_guardsAheadOf 5 = .ok (.aload_n 0, 1) := by decide +kernel
theorem dX0_guardsAheadOf_6 : decode cX0_guardsAheadOf 6 = .ok (.getfield 17, 3) := by decide +kernel
theorem dX0_guardsAheadOf_9 : decode cX0_guardsAheadOf 9 = .ok (.if_icmp .ge 21, 3) := by decide +kernel
theorem dX0_guardsAheadOf_12 : decode cX0_guardsAheadOf 12 = .ok (.aload_n 0, 1) := by decide +kernel
theorem dX0_guardsAheadOf_13 : decode cX0_guardsAheadOf 13 = .ok (.iload_n 3, 1) := by decide +kernel
theorem dX0_guardsAheadOf_14 : decode cX0_guardsAheadOf 14 = .ok (.iload_n 1, 1) := by decide +kernel
theorem dX0_guardsAheadOf_15 : decode cX0_guardsAheadOf 15 = .ok (.invokevirtual 66, 3) := by decide +kernel
theorem dX0_guardsAheadOf_18 : decode cX0_guardsAheadOf 18 = .ok (.ifCond .eq 6, 3) := by decide +kernel
theorem dX0_guardsAheadOf_21 : decode cX0_guardsAheadOf 21 = .ok (.iinc 2 1, 3) := by decide +kernel
theorem dX0_guardsAheadOf_24 : decode cX0_guardsAheadOf 24 = .ok (.iinc 3 1, 3) := by decide +kernel
theorem dX0_guardsAheadOf_27 : decode cX0_guardsAheadOf 27 = .ok (.goto (-23), 3) := by decide +kernel
theorem dX0_guardsAheadOf_30 : decode cX0_guardsAheadOf 30 = .ok (.iload_n 2, 1) := by decide +kernel
theorem dX0_guardsAheadOf_31 : decode cX0_guardsAheadOf 31 = .ok (.ireturn, 1) := by decide +kernel
theorem dX0_isAhead_0 : decode cX0_isAhead 0 = .ok (.aload_n 0, 1) := by decide +kernel
theorem dX0_isAhead_1 : decode cX0_isAhead 1 = .ok (.iload_n 1, 1) := by decide +kernel
theorem dX0_isAhead_2 : decode cX0_isAhead 2 = .ok (.invokevirtual 49, 3) := by decide +kernel
theorem dX0_isAhead_5 : decode cX0_isAhead 5 = .ok (.aload_n 0, 1) := by decide +kernel
theorem dX0_isAhead_6 : decode cX0_isAhead 6 = .ok (.iload_n 2, 1) := by decide +kernel
theorem dX0_isAhead_7 : decode cX0_isAhead 7 = .ok (.invokevirtual 49, 3) := by decide +kernel
theorem dX0_isAhead_10 : decode cX0_isAhead 10 = .ok (.isub, 1) := by decide +kernel
theorem dX0_isAhead_11 : decode cX0_isAhead 11 = .ok (.istore_n 3, 1) := by decide +kernel
theorem dX0_isAhead_12 : decode cX0_isAhead 12 = .ok (.iload_n 3, 1) := by decide +kernel
theorem dX0_isAhead_13 : decode cX0_isAhead 13 = .ok (.ifCond .ne 23, 3) := by decide +kernel
theorem dX0_isAhead_16 : decode cX0_isAhead 16 = .ok (.aload_n 0, 1) := by decide +kernel
theorem dX0_isAhead_17 : decode cX0_isAhead 17 = .ok (.getfield 11, 3) := by decide +kernel
theorem dX0_isAhead_20 : decode cX0_isAhead 20 = .ok (.iload_n 1, 1) := by decide +kernel
theorem dX0_isAhead_21 : decode cX0_isAhead 21 = .ok (.aaload, 1) := by decide +kernel
theorem dX0_isAhead_22 : decode cX0_isAhead 22 = .ok (.getfield 56, 3) := by decide +kernel
theorem dX0_isAhead_25 : decode cX0_isAhead 25 = .ok (.aload_n 0, 1) := by decide +kernel
theorem dX0_isAhead_26 : decode cX0_isAhead 26 = .ok (.getfield 11, 3) := by decide +kernel
theorem dX0_isAhead_29 : decode cX0_isAhead 29 = .ok (.iload_n 2, 1) := by decide +kernel
theorem dX0_isAhead_30 : decode cX0_isAhead 30 = .ok (.aaload, 1) := by decide +kernel
theorem dX0_isAhead_31 : decode cX0_isAhead 31 = .ok (.getfield 56, 3) := by decide +kernel
theorem dX0_isAhead_34 : decode cX0_isAhead 34 = .ok (.isub, 1) := by decide +kernel
theorem dX0_isAhead_35 : decode cX0_isAhead 35 = .ok (.istore_n 3, 1) := by decide +kernel
theorem dX0_isAhead_36 : decode cX0_isAhead 36 = .ok (.iload_n 3, 1) := by decide +kernel
theorem dX0_isAhead_37 : decode cX0_isAhead 37 = .ok (.ifCond .lt 12, 3) := by decide +kernel
theorem dX0_isAhead_40 : decode cX0_isAhead 40 = .ok (.iload_n 3, 1) := by decide +kernel
theorem dX0_isAhead_41 : decode cX0_isAhead 41 = .ok (.ifCond .ne 12, 3) := by decide +kernel
theorem dX0_isAhead_44 : decode cX0_isAhead 44 = .ok (.iload_n 1, 1) := by decide +kernel
theorem dX0_isAhead_45 : decode cX0_isAhead 45 = .ok (.iload_n 2, 1) := by decide +kernel
theorem dX0_isAhead_46 : decode cX0_isAhead 46 = .ok (.if_icmp .ge 7, 3) := by decide +kernel
theorem dX0_isAhead_49 : decode cX0_isAhead 49 = .ok (.iconst 1, 1) := by decide +kernel
theorem dX0_isAhead_50 : decode cX0_isAhead 50 = .ok (.goto 4, 3) := by decide +kernel
theorem dX0_isAhead_53 : decode cX0_isAhead 53 = .ok (.iconst 0, 1) := by decide +kernel
theorem dX0_isAhead_54 : decode cX0_isAhead 54 = .ok (.ireturn, 1) := by decide +kernel
theorem dX0_marginsMatch_0 : decode cX0_marginsMatch 0 = .ok (.iconst 0, 1) := by decide +kernel
theorem dX0_marginsMatch_1 : decode cX0_marginsMatch 1 = .ok (.istore_n 2, 1) := by decide +kernel
theorem dX0_marginsMatch_2 : decode cX0_marginsMatch 2 = .ok (.iload_n 2, 1) := by decide +kernel
theorem dX0_marginsMatch_3 : decode cX0_marginsMatch 3 = .ok (.aload_n 0, 1) := by decide +kernel
theorem dX0_marginsMatch_4 : decode cX0_marginsMatch 4 = .ok (.getfield 29, 3) := by decide +kernel
theorem dX0_marginsMatch_7 : decode cX0_marginsMatch 7 = .ok (.if_icmp .ge 45, 3) := by decide +kernel
theorem dX0_marginsMatch_10 : decode cX0_marginsMatch 10 = .ok (.aload_n 0, 1) := by decide +kernel
theorem dX0_marginsMatch_11 : decode cX0_marginsMatch 11 = .ok (.getfield 11, 3) := by decide +kernel
theorem dX0_marginsMatch_14 : decode cX0_marginsMatch 14 = .ok (.iload_n 1, 1) := by decide +kernel
theorem dX0_marginsMatch_15 : decode cX0_marginsMatch 15 = .ok (.aaload, 1) := by decide +kernel
theorem dX0_marginsMatch_16 : decode cX0_marginsMatch 16 = .ok (.aload_n 0, 1) := by decide +kernel
theorem dX0_marginsMatch_17 : decode cX0_marginsMatch 17 = .ok (.getfield 21, 3) := by decide +kernel
theorem dX0_marginsMatch_20 : decode cX0_marginsMatch 20 = .ok (.iload_n 2, 1) := by decide +kernel
theorem dX0_marginsMatch_21 : decode cX0_marginsMatch 21 = .ok (.iaload, 1) := by decide +kernel
theorem dX0_marginsMatch_22 : decode cX0_marginsMatch 22 = .ok (.invokevirtual 59, 3) := by decide +kernel
theorem dX0_marginsMatch_25 : decode cX0_marginsMatch 25 = .ok (.aload_n 0, 1) := by decide +kernel
theorem dX0_marginsMatch_26 : decode cX0_marginsMatch 26 = .ok (.getfield 11, 3) := by decide +kernel
theorem dX0_marginsMatch_29 : decode cX0_marginsMatch 29 = .ok (.iload_n 1, 1) := by decide +kernel
theorem dX0_marginsMatch_30 : decode cX0_marginsMatch 30 = .ok (.aaload, 1) := by decide +kernel
theorem dX0_marginsMatch_31 : decode cX0_marginsMatch 31 = .ok (.aload_n 0, 1) := by decide +kernel
theorem dX0_marginsMatch_32 : decode cX0_marginsMatch 32 = .ok (.getfield 21, 3) := by decide +kernel
theorem dX0_marginsMatch_35 : decode cX0_marginsMatch 35 = .ok (.iload_n 2, 1) := by decide +kernel
theorem dX0_marginsMatch_36 : decode cX0_marginsMatch 36 = .ok (.iaload, 1) := by decide +kernel
theorem dX0_marginsMatch_37 : decode cX0_marginsMatch 37 = .ok (.invokevirtual 69, 3) := by decide +kernel
theorem dX0_marginsMatch_40 : decode cX0_marginsMatch 40 = .ok (.fcmp .l, 1) := by decide +kernel
theorem dX0_marginsMatch_41 : decode cX0_marginsMatch 41 = .ok (.ifCond .eq 5, 3) := by decide +kernel
theorem dX0_marginsMatch_44 : decode cX0_marginsMatch 44 = .ok (.iconst 0, 1) := by decide +kernel
theorem dX0_marginsMatch_45 : decode cX0_marginsMatch 45 = .ok (.ireturn, 1) := by decide +kernel
theorem dX0_marginsMatch_46 : decode cX0_marginsMatch 46 = .ok (.iinc 2 1, 3) := by decide +kernel
theorem dX0_marginsMatch_49 : decode cX0_marginsMatch 49 = .ok (.goto (-47), 3) := by decide +kernel
theorem dX0_marginsMatch_52 : decode cX0_marginsMatch 52 = .ok (.iconst 1, 1) := by decide +kernel
theorem dX0_marginsMatch_53 : decode cX0_marginsMatch 53 = .ok (.ireturn, 1) := by decide +kernel
theorem dX0_liveDays_0 : decode cX0_liveDays 0 = .ok (.iconst 1, 1) := by decide +kernel
theorem dX0_liveDays_1 : decode cX0_liveDays 1 = .ok (.istore_n 3, 1) := by decide +kernel
theorem dX0_liveDays_2 : decode cX0_liveDays 2 = .ok (.iload_n 3, 1) := by decide +kernel
theorem dX0_liveDays_3 : decode cX0_liveDays 3 = .ok (.iload_n 2, 1) := by decide +kernel
theorem dX0_liveDays_4 : decode cX0_liveDays 4 = .ok (.if_icmp .gt 78, 3) := by decide +kernel
theorem dX0_liveDays_7 : decode cX0_liveDays 7 = .ok (.iconst 0, 1) := by decide +kernel
theorem dX0_liveDays_8 : decode cX0_liveDays 8 = .ok (.istore 4, 2) := by decide +kernel
theorem dX0_liveDays_10 : decode cX0_liveDays 10 = .ok (.iconst 0, 1) := by decide +kernel
theorem dX0_liveDays_11 : decode cX0_liveDays 11 = .ok (.istore 5, 2) := by decide +kernel
theorem dX0_liveDays_13 : decode cX0_liveDays 13 = .ok (.iload 5, 2) := by decide +kernel
theorem dX0_liveDays_15 : decode cX0_liveDays 15 = .ok (.aload_n 0, 1) := by decide +kernel
theorem dX0_liveDays_16 : decode cX0_liveDays 16 = .ok (.getfield 29, 3) := by decide +kernel
theorem dX0_liveDays_19 : decode cX0_liveDays 19 = .ok (.if_icmp .ge 44, 3) := by decide +kernel
theorem dX0_liveDays_22 : decode cX0_liveDays 22 = .ok (.aload_n 1, 1) := by decide +kernel
theorem dX0_liveDays_23 : decode cX0_liveDays 23 = .ok (.aload_n 0, 1) := by decide +kernel
theorem dX0_liveDays_24 : decode cX0_liveDays 24 = .ok (.getfield 21, 3) := by decide +kernel
theorem dX0_liveDays_27 : decode cX0_liveDays 27 = .ok (.iload 5, 2) := by decide +kernel
theorem dX0_liveDays_29 : decode cX0_liveDays 29 = .ok (.iaload, 1) := by decide +kernel
theorem dX0_liveDays_30 : decode cX0_liveDays 30 = .ok (.aload_n 0, 1) := by decide +kernel
theorem dX0_liveDays_31 : decode cX0_liveDays 31 = .ok (.getfield 25, 3) := by decide +kernel
theorem dX0_liveDays_34 : decode cX0_liveDays 34 = .ok (.iload 5, 2) := by decide +kernel
theorem dX0_liveDays_36 : decode cX0_liveDays 36 = .ok (.baload, 1) := by decide +kernel
theorem dX0_liveDays_37 : decode cX0_liveDays 37 = .ok (.invokevirtual 72, 3) := by decide +kernel
theorem dX0_liveDays_40 : decode cX0_liveDays 40 = .ok (.istore 6, 2) := by decide +kernel
theorem dX0_liveDays_42 : decode cX0_liveDays 42 = .ok (.iload 6, 2) := by decide +kernel
theorem dX0_liveDays_44 : decode cX0_liveDays 44 = .ok (.iconst (-1), 1) := by decide +kernel
theorem dX0_liveDays_45 : decode cX0_liveDays 45 = .ok (.if_icmp .ne 5, 3) := by decide +kernel
theorem dX0_liveDays_48 : decode cX0_liveDays 48 = .ok (.iconst (-1), 1) := by decide +kernel
theorem dX0_liveDays_49 : decode cX0_liveDays 49 = .ok (.ireturn, 1) := by decide +kernel
theorem dX0_liveDays_50 : decode cX0_liveDays 50 = .ok (.iload 4, 2) := by decide +kernel
theorem dX0_liveDays_52 : decode cX0_liveDays 52 = .ok (.iload 6, 2) := by decide +kernel
theorem dX0_liveDays_54 : decode cX0_liveDays 54 = .ok (.iadd, 1) := by decide +kernel
theorem dX0_liveDays_55 : decode cX0_liveDays 55 = .ok (.istore 4, 2) := by decide +kernel
theorem dX0_liveDays_57 : decode cX0_liveDays 57 = .ok (.iinc 5 1, 3) := by decide +kernel
theorem dX0_liveDays_60 : decode cX0_liveDays 60 = .ok (.goto (-47), 3) := by decide +kernel
theorem dX0_liveDays_63 : decode cX0_liveDays 63 = .ok (.aload_n 1, 1) := by decide +kernel
theorem dX0_liveDays_64 : decode cX0_liveDays 64 = .ok (.iload 4, 2) := by decide +kernel
theorem dX0_liveDays_66 : decode cX0_liveDays 66 = .ok (.invokevirtual 76, 3) := by decide +kernel
theorem dX0_liveDays_69 : decode cX0_liveDays 69 = .ok (.iload 4, 2) := by decide +kernel
theorem dX0_liveDays_71 : decode cX0_liveDays 71 = .ok (.ifCond .ne 5, 3) := by decide +kernel
theorem dX0_liveDays_74 : decode cX0_liveDays 74 = .ok (.iload_n 3, 1) := by decide +kernel
theorem dX0_liveDays_75 : decode cX0_liveDays 75 = .ok (.ireturn, 1) := by decide +kernel
theorem dX0_liveDays_76 : decode cX0_liveDays 76 = .ok (.iinc 3 1, 3) := by decide +kernel
theorem dX0_liveDays_79 : decode cX0_liveDays 79 = .ok (.goto (-77), 3) := by decide +kernel
theorem dX0_liveDays_82 : decode cX0_liveDays 82 = .ok (.iload_n 2, 1) := by decide +kernel
theorem dX0_liveDays_83 : decode cX0_liveDays 83 = .ok (.ireturn, 1) := by decide +kernel
theorem dX1_init_0 : decode cX1_init 0 = .ok (.aload_n 0, 1) := by decide +kernel
theorem dX1_init_1 : decode cX1_init 1 = .ok (.invokespecial 3, 3) := by decide +kernel
theorem dX1_init_4 : decode cX1_init 4 = .ok (.aload_n 0, 1) := by decide +kernel
theorem dX1_init_5 : decode cX1_init 5 = .ok (.iconst 0, 1) := by decide +kernel
theorem dX1_init_6 : decode cX1_init 6 = .ok (.putfield 9, 3) := by decide +kernel
theorem dX1_init_9 : decode cX1_init 9 = .ok (.aload_n 0, 1) := by decide +kernel
theorem dX1_init_10 : decode cX1_init 10 = .ok (.iconst 0, 1) := by decide +kernel
theorem dX1_init_11 : decode cX1_init 11 = .ok (.putfield 15, 3) := by decide +kernel
theorem dX1_init_14 : decode cX1_init 14 = .ok (.aload_n 0, 1) := by decide +kernel
theorem dX1_init_15 : decode cX1_init 15 = .ok (.bipush 11, 2) := by decide +kernel
theorem dX1_init_17 : decode cX1_init 17 = .ok (.newarray .float, 2) := by decide +kernel
theorem dX1_init_19 : decode cX1_init 19 = .ok (.putfield 18, 3) := by decide +kernel
theorem dX1_init_22 : decode cX1_init 22 = .ok (.aload_n 0, 1) := by decide +kernel
theorem dX1_init_23 : decode cX1_init 23 = .ok (.bipush 11, 2) := by decide +kernel
theorem dX1_init_25 : decode cX1_init 25 = .ok (.newarray .int, 2) := by decide +kernel
theorem dX1_init_27 : decode cX1_init 27 = .ok (.putfield 22, 3) := by decide +kernel
theorem dX1_init_30 : decode cX1_init 30 = .ok (.aload_n 0, 1) := by decide +kernel
theorem dX1_init_31 : decode cX1_init 31 = .ok (.bipush 10, 2) := by decide +kernel
theorem dX1_init_33 : decode cX1_init 33 = .ok (.newarray .float, 2) := by decide +kernel
theorem dX1_init_35 : decode cX1_init 35 = .ok (.putfield 26, 3) := by decide +kernel
theorem dX1_init_38 : decode cX1_init 38 = .ok (.aload_n 0, 1) := by decide +kernel
theorem dX1_init_39 : decode cX1_init 39 = .ok (.iconst 0, 1) := by decide +kernel
theorem dX1_init_40 : decode cX1_init 40 = .ok (.putfield 29, 3) := by decide +kernel
theorem dX1_init_43 : decode cX1_init 43 = .ok (.aload_n 0, 1) := by decide +kernel
theorem dX1_init_44 : decode cX1_init 44 = .ok (.iconst 0, 1) := by decide +kernel
theorem dX1_init_45 : decode cX1_init 45 = .ok (.putfield 32, 3) := by decide +kernel
theorem dX1_init_48 : decode cX1_init 48 = .ok (.aload_n 0, 1) := by decide +kernel
theorem dX1_init_49 : decode cX1_init 49 = .ok (.iconst 0, 1) := by decide +kernel
theorem dX1_init_50 : decode cX1_init 50 = .ok (.putfield 35, 3) := by decide +kernel
theorem dX1_init_53 : decode cX1_init 53 = .ok (.aload_n 0, 1) := by decide +kernel
theorem dX1_init_54 : decode cX1_init 54 = .ok (.iconst 0, 1) := by decide +kernel
theorem dX1_init_55 : decode cX1_init 55 = .ok (.putfield 38, 3) := by decide +kernel
theorem dX1_init_58 : decode cX1_init 58 = .ok (.return_, 1) := by decide +kernel
theorem dX1_begin_0 : decode cX1_begin 0 = .ok (.aload_n 0, 1) := by decide +kernel
theorem dX1_begin_1 : decode cX1_begin 1 = .ok (.iload_n 1, 1) := by decide +kernel
theorem dX1_begin_2 : decode cX1_begin 2 = .ok (.putfield 9, 3) := by decide +kernel
theorem dX1_begin_5 : decode cX1_begin 5 = .ok (.aload_n 0, 1) := by decide +kernel
theorem dX1_begin_6 : decode cX1_begin 6 = .ok (.iconst 0, 1) := by decide +kernel
theorem dX1_begin_7 : decode cX1_begin 7 = .ok (.putfield 15, 3) := by decide +kernel
theorem dX1_begin_10 : decode cX1_begin 10 = .ok (.aload_n 0, 1) := by decide +kernel
theorem dX1_begin_11 : decode cX1_begin 11 = .ok (.iconst 0, 1) := by decide +kernel
theorem dX1_begin_12 : decode cX1_begin 12 = .ok (.putfield 29, 3) := by decide +kernel
theorem dX1_begin_15 : decode cX1_begin 15 = .ok (.aload_n 0, 1) := by decide +kernel
theorem dX1_begin_16 : decode cX1_begin 16 = .ok (.iconst 0, 1) := by decide +kernel
theorem dX1_begin_17 : decode cX1_begin 17 = .ok (.putfield 32, 3) := by decide +kernel
theorem dX1_begin_20 : decode cX1_begin 20 = .ok (.aload_n 0, 1) := by decide +kernel
theorem dX1_begin_21 : decode cX1_begin 21 = .ok (.iconst 0, 1) := by decide +kernel
theorem dX1_begin_22 : decode cX1_begin 22 = .ok (.putfield 35, 3) := by decide +kernel
theorem dX1_begin_25 : decode cX1_begin 25 = .ok (.aload_n 0, 1) := by decide +kernel
theorem dX1_begin_26 : decode cX1_begin 26 = .ok (.iconst 0, 1) := by decide +kernel
theorem dX1_begin_27 : decode cX1_begin 27 = .ok (.putfield 38, 3) := by decide +kernel
theorem dX1_begin_30 : decode cX1_begin 30 = .ok (.iconst 0, 1) := by decide +kernel
theorem dX1_begin_31 : decode cX1_begin 31 = .ok (.istore_n 2, 1) := by decide +kernel
theorem dX1_begin_32 : decode cX1_begin 32 = .ok (.iload_n 2, 1) := by decide +kernel
theorem dX1_begin_33 : decode cX1_begin 33 = .ok (.bipush 10, 2) := by decide +kernel
theorem dX1_begin_35 : decode cX1_begin 35 = .ok (.if_icmp .gt 23, 3) := by decide +kernel
theorem dX1_begin_38 : decode cX1_begin 38 = .ok (.aload_n 0, 1) := by decide +kernel
theorem dX1_begin_39 : decode cX1_begin 39 = .ok (.getfield 18, 3) := by decide +kernel
theorem dX1_begin_42 : decode cX1_begin 42 = .ok (.iload_n 2, 1) := by decide +kernel
theorem dX1_begin_43 : decode cX1_begin 43 = .ok (.fconst 0, 1) := by decide +kernel
theorem dX1_begin_44 : decode cX1_begin 44 = .ok (.fastore, 1) := by decide +kernel
theorem dX1_begin_45 : decode cX1_begin 45 = .ok (.aload_n 0, 1) := by decide +kernel
theorem dX1_begin_46 : decode cX1_begin 46 = .ok (.getfield 22, 3) := by decide +kernel
theorem dX1_begin_49 : decode cX1_begin 49 = .ok (.iload_n 2, 1) := by decide +kernel
theorem dX1_begin_50 : decode cX1_begin 50 = .ok (.iconst 0, 1) := by decide +kernel
theorem dX1_begin_51 : decode cX1_begin 51 = .ok (.iastore, 1) := by decide +kernel
theorem dX1_begin_52 : decode cX1_begin 52 = .ok (.iinc 2 1, 3) := by decide +kernel
theorem dX1_begin_55 : decode cX1_begin 55 = .ok (.goto (-23), 3) := by decide +kernel
theorem dX1_begin_58 : decode cX1_begin 58 = .ok (.iconst 0, 1) := by decide +kernel
theorem dX1_begin_59 : decode cX1_begin 59 = .ok (.istore_n 2, 1) := by decide +kernel
theorem dX1_begin_60 : decode cX1_begin 60 = .ok (.iload_n 2, 1) := by decide +kernel
theorem dX1_begin_61 : decode cX1_begin 61 = .ok (.bipush 10, 2) := by decide +kernel
theorem dX1_begin_63 : decode cX1_begin 63 = .ok (.if_icmp .ge 16, 3) := by decide +kernel
theorem dX1_begin_66 : decode cX1_begin 66 = .ok (.aload_n 0, 1) := by decide +kernel
theorem dX1_begin_67 : decode cX1_begin 67 = .ok (.getfield 26, 3) := by decide +kernel
theorem dX1_begin_70 : decode cX1_begin 70 = .ok (.iload_n 2, 1) := by decide +kernel
theorem dX1_begin_71 : decode cX1_begin 71 = .ok (.fconst 0, 1) := by decide +kernel
theorem dX1_begin_72 : decode cX1_begin 72 = .ok (.fastore, 1) := by decide +kernel
theorem dX1_begin_73 : decode cX1_begin 73 = .ok (.iinc 2 1, 3) := by decide +kernel
theorem dX1_begin_76 : decode cX1_begin 76 = .ok (.goto (-16), 3) := by decide +kernel
theorem dX1_begin_79 : decode cX1_begin 79 = .ok (.return_, 1) := by decide +kernel
theorem dX1_copyFrom_0 : decode cX1_copyFrom 0 = .ok (.aload_n 0, 1) := by decide +kernel
theorem dX1_copyFrom_1 : decode cX1_copyFrom 1 = .ok (.aload_n 1, 1) := by decide +kernel
theorem dX1_copyFrom_2 : decode cX1_copyFrom 2 = .ok (.getfield 9, 3) := by decide +kernel
theorem dX1_copyFrom_5 : decode cX1_copyFrom 5 = .ok (.putfield 9, 3) := by decide +kernel
theorem dX1_copyFrom_8 : decode cX1_copyFrom 8 = .ok (.aload_n 0, 1) := by decide +kernel
theorem dX1_copyFrom_9 : decode cX1_copyFrom 9 = .ok (.aload_n 1, 1) := by decide +kernel
theorem dX1_copyFrom_10 : decode cX1_copyFrom 10 = .ok (.getfield 15, 3) := by decide +kernel
theorem dX1_copyFrom_13 : decode cX1_copyFrom 13 = .ok (.putfield 15, 3) := by decide +kernel
theorem dX1_copyFrom_16 : decode cX1_copyFrom 16 = .ok (.aload_n 0, 1) := by decide +kernel
theorem dX1_copyFrom_17 : decode cX1_copyFrom 17 = .ok (.aload_n 1, 1) := by decide +kernel
theorem dX1_copyFrom_18 : decode cX1_copyFrom 18 = .ok (.getfield 29, 3) := by decide +kernel
theorem dX1_copyFrom_21 : decode cX1_copyFrom 21 = .ok (.putfield 29, 3) := by decide +kernel
theorem dX1_copyFrom_24 : decode cX1_copyFrom 24 = .ok (.aload_n 0, 1) := by decide +kernel
theorem dX1_copyFrom_25 : decode cX1_copyFrom 25 = .ok (.aload_n 1, 1) := by decide +kernel
theorem dX1_copyFrom_26 : decode cX1_copyFrom 26 = .ok (.getfield 32, 3) := by decide +kernel
theorem dX1_copyFrom_29 : decode cX1_copyFrom 29 = .ok (.putfield 32, 3) := by decide +kernel
theorem dX1_copyFrom_32 : decode cX1_copyFrom 32 = .ok (.aload_n 0, 1) := by decide +kernel
theorem dX1_copyFrom_33 : decode cX1_copyFrom 33 = .ok (.aload_n 1, 1) := by decide +kernel
theorem dX1_copyFrom_34 : decode cX1_copyFrom 34 = .ok (.getfield 35, 3) := by decide +kernel
theorem dX1_copyFrom_37 : decode cX1_copyFrom 37 = .ok (.putfield 35, 3) := by decide +kernel
theorem dX1_copyFrom_40 : decode cX1_copyFrom 40 = .ok (.aload_n 0, 1) := by decide +kernel
theorem dX1_copyFrom_41 : decode cX1_copyFrom 41 = .ok (.aload_n 1, 1) := by decide +kernel
theorem dX1_copyFrom_42 : decode cX1_copyFrom 42 = .ok (.getfield 38, 3) := by decide +kernel
theorem dX1_copyFrom_45 : decode cX1_copyFrom 45 = .ok (.putfield 38, 3) := by decide +kernel
theorem dX1_copyFrom_48 : decode cX1_copyFrom 48 = .ok (.aload_n 1, 1) := by decide +kernel
theorem dX1_copyFrom_49 : decode cX1_copyFrom 49 = .ok (.getfield 18, 3) := by decide +kernel
theorem dX1_copyFrom_52 : decode cX1_copyFrom 52 = .ok (.iconst 0, 1) := by decide +kernel
theorem dX1_copyFrom_53 : decode cX1_copyFrom 53 = .ok (.aload_n 0, 1) := by decide +kernel
theorem dX1_copyFrom_54 : decode cX1_copyFrom 54 = .ok (.getfield 18, 3) := by decide +kernel
theorem dX1_copyFrom_57 : decode cX1_copyFrom 57 = .ok (.iconst 0, 1) := by decide +kernel
theorem dX1_copyFrom_58 : decode cX1_copyFrom 58 = .ok (.bipush 11, 2) := by decide +kernel
theorem dX1_copyFrom_60 : decode cX1_copyFrom 60 = .ok (.invokestatic 41, 3) := by decide +kernel
theorem dX1_copyFrom_63 : decode cX1_copyFrom 63 = .ok (.aload_n 1, 1) := by decide +kernel
theorem dX1_copyFrom_64 : decode cX1_copyFrom 64 = .ok (.getfield 22, 3) := by decide +kernel
theorem dX1_copyFrom_67 : decode cX1_copyFrom 67 = .ok (.iconst 0, 1) := by decide +kernel
theorem dX1_copyFrom_68 : decode cX1_copyFrom 68 = .ok (.aload_n 0, 1) := by decide +kernel
theorem dX1_copyFrom_69 : decode cX1_copyFrom 69 = .ok (.getfield 22, 3) := by decide +kernel
theorem dX1_copyFrom_72 : decode cX1_copyFrom 72 = .ok (.iconst 0, 1) := by decide +kernel
theorem dX1_copyFrom_73 : decode cX1_copyFrom 73 = .ok (.bipush 11, 2) := by decide +kernel
theorem dX1_copyFrom_75 : decode cX1_copyFrom 75 = .ok (.invokestatic 41, 3) := by decide +kernel
theorem dX1_copyFrom_78 : decode cX1_copyFrom 78 = .ok (.aload_n 1, 1) := by decide +kernel
theorem dX1_copyFrom_79 : decode cX1_copyFrom 79 = .ok (.getfield 26, 3) := by decide +kernel
theorem dX1_copyFrom_82 : decode cX1_copyFrom 82 = .ok (.iconst 0, 1) := by decide +kernel
theorem dX1_copyFrom_83 : decode cX1_copyFrom 83 = .ok (.aload_n 0, 1) := by decide +kernel
theorem dX1_copyFrom_84 : decode cX1_copyFrom 84 = .ok (.getfield 26, 3) := by decide +kernel
theorem dX1_copyFrom_87 : decode cX1_copyFrom 87 = .ok (.iconst 0, 1) := by decide +kernel
theorem dX1_copyFrom_88 : decode cX1_copyFrom 88 = .ok (.bipush 10, 2) := by decide +kernel
theorem dX1_copyFrom_90 : decode cX1_copyFrom 90 = .ok (.invokestatic 41, 3) := by decide +kernel
theorem dX1_copyFrom_93 : decode cX1_copyFrom 93 = .ok (.return_, 1) := by decide +kernel
theorem dX1_marginOf_0 : decode cX1_marginOf 0 = .ok (.aload_n 0, 1) := by decide +kernel
theorem dX1_marginOf_1 : decode cX1_marginOf 1 = .ok (.getfield 18, 3) := by decide +kernel
theorem dX1_marginOf_4 : decode cX1_marginOf 4 = .ok (.iconst 0, 1) := by decide +kernel
theorem dX1_marginOf_5 : decode cX1_marginOf 5 = .ok (.faload, 1) := by decide +kernel
theorem dX1_marginOf_6 : decode cX1_marginOf 6 = .ok (.fstore_n 2, 1) := by decide +kernel
theorem dX1_marginOf_7 : decode cX1_marginOf 7 = .ok (.iconst 0, 1) := by decide +kernel
theorem dX1_marginOf_8 : decode cX1_marginOf 8 = .ok (.istore_n 3, 1) := by decide +kernel
theorem dX1_marginOf_9 : decode cX1_marginOf 9 = .ok (.iload_n 3, 1) := by decide +kernel
theorem dX1_marginOf_10 : decode cX1_marginOf 10 = .ok (.bipush 10, 2) := by decide +kernel
theorem dX1_marginOf_12 : decode cX1_marginOf 12 = .ok (.if_icmp .ge 29, 3) := by decide +kernel
theorem dX1_marginOf_15 : decode cX1_marginOf 15 = .ok (.iload_n 1, 1) := by decide +kernel
theorem dX1_marginOf_16 : decode cX1_marginOf 16 = .ok (.iload_n 3, 1) := by decide +kernel
theorem dX1_marginOf_17 : decode cX1_marginOf 17 = .ok (.ishr, 1) := by decide +kernel
theorem dX1_marginOf_18 : decode cX1_marginOf 18 = .ok (.iconst 1, 1) := by decide +kernel
theorem dX1_marginOf_19 : decode cX1_marginOf 19 = .ok (.iand, 1) := by decide +kernel
theorem dX1_marginOf_20 : decode cX1_marginOf 20 = .ok (.iconst 1, 1) := by decide +kernel
theorem dX1_marginOf_21 : decode cX1_marginOf 21 = .ok (.if_icmp .ne 14, 3) := by decide +kernel
theorem dX1_marginOf_24 : decode cX1_marginOf 24 = .ok (.fload_n 2, 1) := by decide +kernel
theorem dX1_marginOf_25 : decode cX1_marginOf 25 = .ok (.aload_n 0, 1) := by decide +kernel
theorem dX1_marginOf_26 : decode cX1_marginOf 26 = .ok (.getfield 18, 3) := by decide +kernel
theorem dX1_marginOf_29 : decode cX1_marginOf 29 = .ok (.iload_n 3, 1) := by decide +kernel
theorem dX1_marginOf_30 : decode cX1_marginOf 30 = .ok (.iconst 1, 1) := by decide +kernel
theorem dX1_marginOf_31 : decode cX1_marginOf 31 = .ok (.iadd, 1) := by decide +kernel
theorem dX1_marginOf_32 : decode cX1_marginOf 32 = .ok (.faload, 1) := by decide +kernel
theorem dX1_marginOf_33 : decode cX1_marginOf 33 = .ok (.fadd, 1) := by decide +kernel
theorem dX1_marginOf_34 : decode cX1_marginOf 34 = .ok (.fstore_n 2, 1) := by decide +kernel
theorem dX1_marginOf_35 : decode cX1_marginOf 35 = .ok (.iinc 3 1, 3) := by decide +kernel
theorem dX1_marginOf_38 : decode cX1_marginOf 38 = .ok (.goto (-29), 3) := by decide +kernel
theorem dX1_marginOf_41 : decode cX1_marginOf 41 = .ok (.fload_n 2, 1) := by decide +kernel
theorem dX1_marginOf_42 : decode cX1_marginOf 42 = .ok (.freturn, 1) := by decide +kernel
theorem dX1_countedMarginOf_0 : decode cX1_countedMarginOf 0 = .ok (.aload_n 0, 1) := by decide +kernel
theorem dX1_countedMarginOf_1 : decode cX1_countedMarginOf 1 = .ok (.getfield 22, 3) := by decide +kernel
theorem dX1_countedMarginOf_4 : decode cX1_countedMarginOf 4 = .ok (.iconst 0, 1) := by decide +kernel
theorem dX1_countedMarginOf_5 : decode cX1_countedMarginOf 5 = .ok (.iaload, 1) := by decide +kernel
theorem dX1_countedMarginOf_6 : decode cX1_countedMarginOf 6 = .ok (.istore_n 2, 1) := by decide +kernel
theorem dX1_countedMarginOf_7 : decode cX1_countedMarginOf 7 = .ok (.iconst 0, 1) := by decide +kernel
theorem dX1_countedMarginOf_8 : decode cX1_countedMarginOf 8 = .ok (.istore_n 3, 1) := by decide +kernel
theorem dX1_countedMarginOf_9 : decode cX1_countedMarginOf 9 = .ok (.iload_n 3, 1) := by decide +kernel
theorem dX1_countedMarginOf_10 : decode cX1_countedMarginOf 10 = .ok (.bipush 10, 2) := by decide +kernel
theorem dX1_countedMarginOf_12 : decode cX1_countedMarginOf 12 = .ok (.if_icmp .ge 29, 3) := by decide +kernel
theorem dX1_countedMarginOf_15 : decode cX1_countedMarginOf 15 = .ok (.iload_n 1, 1) := by decide +kernel
theorem dX1_countedMarginOf_16 : decode cX1_countedMarginOf 16 = .ok (.iload_n 3, 1) := by decide +kernel
theorem dX1_countedMarginOf_17 : decode cX1_countedMarginOf 17 = .ok (.ishr, 1) := by decide +kernel
theorem dX1_countedMarginOf_18 : decode cX1_countedMarginOf 18 = .ok (.iconst 1, 1) := by decide +kernel
theorem dX1_countedMarginOf_19 : decode cX1_countedMarginOf 19 = .ok (.iand, 1) := by decide +kernel
theorem dX1_countedMarginOf_20 : decode cX1_countedMarginOf 20 = .ok (.iconst 1, 1) := by decide +kernel
theorem dX1_countedMarginOf_21 : decode cX1_countedMarginOf 21 = .ok (.if_icmp .ne 14, 3) := by decide +kernel
theorem dX1_countedMarginOf_24 : decode cX1_countedMarginOf 24 = .ok (.iload_n 2, 1) := by decide +kernel
theorem dX1_countedMarginOf_25 : decode cX1_countedMarginOf 25 = .ok (.aload_n 0, 1) := by decide +kernel
theorem dX1_countedMarginOf_26 : decode cX1_countedMarginOf 26 = .ok (.getfield 22, 3) := by decide +kernel
theorem dX1_countedMarginOf_29 : decode cX1_countedMarginOf 29 = .ok (.iload_n 3, 1) := by decide +kernel
theorem dX1_countedMarginOf_30 : decode cX1_countedMarginOf 30 = .ok (.iconst 1, 1) := by decide +kernel
theorem dX1_countedMarginOf_31 : decode cX1_countedMarginOf 31 = .ok (.iadd, 1) := by decide +kernel
theorem dX1_countedMarginOf_32 : decode cX1_countedMarginOf 32 = .ok (.iaload, 1) := by decide +kernel
theorem dX1_countedMarginOf_33 : decode cX1_countedMarginOf 33 = .ok (.iadd, 1) := by decide +kernel
theorem dX1_countedMarginOf_34 : decode cX1_countedMarginOf 34 = .ok (.istore_n 2, 1) := by decide +kernel
theorem dX1_countedMarginOf_35 : decode cX1_countedMarginOf 35 = .ok (.iinc 3 1, 3) := by decide +kernel
theorem dX1_countedMarginOf_38 : decode cX1_countedMarginOf 38 = .ok (.goto (-29), 3) := by decide +kernel
theorem dX1_countedMarginOf_41 : decode cX1_countedMarginOf 41 = .ok (.iload_n 2, 1) := by decide +kernel
theorem dX1_countedMarginOf_42 : decode cX1_countedMarginOf 42 = .ok (.i2f, 1) := by decide +kernel
theorem dX1_countedMarginOf_43 : decode cX1_countedMarginOf 43 = .ok (.ldc 47, 2) := by decide +kernel
theorem dX1_countedMarginOf_45 : decode cX1_countedMarginOf 45 = .ok (.fdiv, 1) := by decide +kernel
theorem dX1_countedMarginOf_46 : decode cX1_countedMarginOf 46 = .ok (.freturn, 1) := by decide +kernel
theorem dX1_admits_0 : decode cX1_admits 0 = .ok (.aload_n 0, 1) := by decide +kernel
theorem dX1_admits_1 : decode cX1_admits 1 = .ok (.iload_n 1, 1) := by decide +kernel
theorem dX1_admits_2 : decode cX1_admits 2 = .ok (.invokevirtual 48, 3) := by decide +kernel
theorem dX1_admits_5 : decode cX1_admits 5 = .ok (.fconst 0, 1) := by decide +kernel
theorem dX1_admits_6 : decode cX1_admits 6 = .ok (.fcmp .l, 1) := by decide +kernel
theorem dX1_admits_7 : decode cX1_admits 7 = .ok (.ifCond .le 7, 3) := by decide +kernel
theorem dX1_admits_10 : decode cX1_admits 10 = .ok (.iconst 1, 1) := by decide +kernel
theorem dX1_admits_11 : decode cX1_admits 11 = .ok (.goto 4, 3) := by decide +kernel
theorem dX1_admits_14 : decode cX1_admits 14 = .ok (.iconst 0, 1) := by decide +kernel
theorem dX1_admits_15 : decode cX1_admits 15 = .ok (.ireturn, 1) := by decide +kernel
theorem dX1_needsPush_0 : decode cX1_needsPush 0 = .ok (.fload_n 1, 1) := by decide +kernel
theorem dX1_needsPush_1 : decode cX1_needsPush 1 = .ok (.fconst 0, 1) := by decide +kernel
theorem dX1_needsPush_2 : decode cX1_needsPush 2 = .ok (.fcmp .l, 1) := by decide +kernel
theorem dX1_needsPush_3 : decode cX1_needsPush 3 = .ok (.ifCond .le 7, 3) := by decide +kernel
theorem dX1_needsPush_6 : decode cX1_needsPush 6 = .ok (.iconst 1, 1) := by decide +kernel
theorem dX1_needsPush_7 : decode cX1_needsPush 7 = .ok (.goto 4, 3) := by decide +kernel
theorem dX1_needsPush_10 : decode cX1_needsPush 10 = .ok (.iconst 0, 1) := by decide +kernel
theorem dX1_needsPush_11 : decode cX1_needsPush 11 = .ok (.iload_n 2, 1) := by decide +kernel
theorem dX1_needsPush_12 : decode cX1_needsPush 12 = .ok (.if_icmp .eq 5, 3) := by decide +kernel
theorem dX1_needsPush_15 : decode cX1_needsPush 15 = .ok (.iconst 1, 1) := by decide +kernel
theorem dX1_needsPush_16 : decode cX1_needsPush 16 = .ok (.ireturn, 1) := by decide +kernel
theorem dX1_needsPush_17 : decode cX1_needsPush 17 = .ok (.fload_n 1, 1) := by decide +kernel
theorem dX1_needsPush_18 : decode cX1_needsPush 18 = .ok (.fconst 0, 1) := by decide +kernel
theorem dX1_needsPush_19 : decode cX1_needsPush 19 = .ok (.fcmp .g, 1) := by decide +kernel
theorem dX1_needsPush_20 : decode cX1_needsPush 20 = .ok (.ifCond .ge 9, 3) := by decide +kernel
theorem dX1_needsPush_23 : decode cX1_needsPush 23 = .ok (.fconst 0, 1) := by decide +kernel
theorem dX1_needsPush_24 : decode cX1_needsPush 24 = .ok (.fload_n 1, 1) := by decide +kernel
theorem dX1_needsPush_25 : decode cX1_needsPush 25 = .ok (.fsub, 1) := by decide +kernel
theorem dX1_needsPush_26 : decode cX1_needsPush 26 = .ok (.goto 4, 3) := by decide +kernel
theorem dX1_needsPush_29 : decode cX1_needsPush 29 = .ok (.fload_n 1, 1) := by decide +kernel
theorem dX1_needsPush_30 : decode cX1_needsPush 30 = .ok (.fstore_n 3, 1) := by decide +kernel
theorem dX1_needsPush_31 : decode cX1_needsPush 31 = .ok (.fload_n 3, 1) := by decide +kernel
theorem dX1_needsPush_32 : decode cX1_needsPush 32 = .ok (.aload_n 0, 1) := by decide +kernel
theorem dX1_needsPush_33 : decode cX1_needsPush 33 = .ok (.getfield 15, 3) := by decide +kernel
theorem dX1_needsPush_36 : decode cX1_needsPush 36 = .ok (.i2f, 1) := by decide +kernel
theorem dX1_needsPush_37 : decode cX1_needsPush 37 = .ok (.ldc 47, 2) := by decide +kernel
theorem dX1_needsPush_39 : decode cX1_needsPush 39 = .ok (.fdiv, 1) := by decide +kernel
theorem dX1_needsPush_40 : decode cX1_needsPush 40 = .ok (.fcmp .g, 1) := by decide +kernel
theorem dX1_needsPush_41 : decode cX1_needsPush 41 = .ok (.ifCond .ge 7, 3) := by decide +kernel
theorem dX1_needsPush_44 : decode cX1_needsPush 44 = .ok (.iconst 1, 1) := by decide +kernel
theorem dX1_needsPush_45 : decode cX1_needsPush 45 = .ok (.goto 4, 3) := by decide +kernel
theorem dX1_needsPush_48 : decode cX1_needsPush 48 = .ok (.iconst 0, 1) := by decide +kernel
theorem dX1_needsPush_49 : decode cX1_needsPush 49 = .ok (.ireturn, 1) := by decide +kernel
theorem dX1_hasRoom_0 : decode cX1_hasRoom 0 = .ok (.iload_n 1, 1) := by decide +kernel
theorem dX1_hasRoom_1 : decode cX1_hasRoom 1 = .ok (.iconst 1, 1) := by decide +kernel
theorem dX1_hasRoom_2 : decode cX1_hasRoom 2 = .ok (.ishl, 1) := by decide +kernel
theorem dX1_hasRoom_3 : decode cX1_hasRoom 3 = .ok (.iconst 1, 1) := by decide +kernel
theorem dX1_hasRoom_4 : decode cX1_hasRoom 4 = .ok (.ior, 1) := by decide +kernel
theorem dX1_hasRoom_5 : decode cX1_hasRoom 5 = .ok (.istore_n 3, 1) := by decide +kernel
theorem dX1_hasRoom_6 : decode cX1_hasRoom 6 = .ok (.iconst 0, 1) := by decide +kernel
theorem dX1_hasRoom_7 : decode cX1_hasRoom 7 = .ok (.istore 4, 2) := by decide +kernel
theorem dX1_hasRoom_9 : decode cX1_hasRoom 9 = .ok (.iload 4, 2) := by decide +kernel
theorem dX1_hasRoom_11 : decode cX1_hasRoom 11 = .ok (.bipush 10, 2) := by decide +kernel
theorem dX1_hasRoom_13 : decode cX1_hasRoom 13 = .ok (.if_icmp .gt 68, 3) := by decide +kernel
theorem dX1_hasRoom_16 : decode cX1_hasRoom 16 = .ok (.iload_n 2, 1) := by decide +kernel
theorem dX1_hasRoom_17 : decode cX1_hasRoom 17 = .ok (.ifCond .eq 18, 3) := by decide +kernel
theorem dX1_hasRoom_20 : decode cX1_hasRoom 20 = .ok (.aload_n 0, 1) := by decide +kernel
theorem dX1_hasRoom_21 : decode cX1_hasRoom 21 = .ok (.getfield 22, 3) := by decide +kernel
theorem dX1_hasRoom_24 : decode cX1_hasRoom 24 = .ok (.iload 4, 2) := by decide +kernel
theorem dX1_hasRoom_26 : decode cX1_hasRoom 26 = .ok (.iaload, 1) := by decide +kernel
theorem dX1_hasRoom_27 : decode cX1_hasRoom 27 = .ok (.aload_n 0, 1) := by decide +kernel
theorem dX1_hasRoom_28 : decode cX1_hasRoom 28 = .ok (.getfield 9, 3) := by decide +kernel
theorem dX1_hasRoom_31 : decode cX1_hasRoom 31 = .ok (.iadd, 1) := by decide +kernel
theorem dX1_hasRoom_32 : decode cX1_hasRoom 32 = .ok (.goto 15, 3) := by decide +kernel
theorem dX1_hasRoom_35 : decode cX1_hasRoom 35 = .ok (.aload_n 0, 1) := by decide +kernel
theorem dX1_hasRoom_36 : decode cX1_hasRoom 36 = .ok (.getfield 22, 3) := by decide +kernel
theorem dX1_hasRoom_39 : decode cX1_hasRoom 39 = .ok (.iload 4, 2) := by decide +kernel
theorem dX1_hasRoom_41 : decode cX1_hasRoom 41 = .ok (.iaload, 1) := by decide +kernel
theorem dX1_hasRoom_42 : decode cX1_hasRoom 42 = .ok (.aload_n 0, 1) := by decide +kernel
theorem dX1_hasRoom_43 : decode cX1_hasRoom 43 = .ok (.getfield 9, 3) := by decide +kernel
theorem dX1_hasRoom_46 : decode cX1_hasRoom 46 = .ok (.isub, 1) := by decide +kernel
theorem dX1_hasRoom_47 : decode cX1_hasRoom 47 = .ok (.istore 5, 2) := by decide +kernel
theorem dX1_hasRoom_49 : decode cX1_hasRoom 49 = .ok (.iload_n 3, 1) := by decide +kernel
theorem dX1_hasRoom_50 : decode cX1_hasRoom 50 = .ok (.iload 4, 2) := by decide +kernel
theorem dX1_hasRoom_52 : decode cX1_hasRoom 52 = .ok (.ishr, 1) := by decide +kernel
theorem dX1_hasRoom_53 : decode cX1_hasRoom 53 = .ok (.iconst 1, 1) := by decide +kernel
theorem dX1_hasRoom_54 : decode cX1_hasRoom 54 = .ok (.iand, 1) := by decide +kernel
theorem dX1_hasRoom_55 : decode cX1_hasRoom 55 = .ok (.iconst 1, 1) := by decide +kernel
theorem dX1_hasRoom_56 : decode cX1_hasRoom 56 = .ok (.if_icmp .ne 19, 3) := by decide +kernel
theorem dX1_hasRoom_59 : decode cX1_hasRoom 59 = .ok (.iload 5, 2) := by decide +kernel
theorem dX1_hasRoom_61 : decode cX1_hasRoom 61 = .ok (.ldc 52, 2) := by decide +kernel
theorem dX1_hasRoom_63 : decode cX1_hasRoom 63 = .ok (.if_icmp .gt 10, 3) := by decide +kernel
theorem dX1_hasRoom_66 : decode cX1_hasRoom 66 = .ok (.iload 5, 2) := by decide +kernel
theorem dX1_hasRoom_68 : decode cX1_hasRoom 68 = .ok (.ldc 53, 2) := by decide +kernel
theorem dX1_hasRoom_70 : decode cX1_hasRoom 70 = .ok (.if_icmp .ge 5, 3) := by decide +kernel
theorem dX1_hasRoom_73 : decode cX1_hasRoom 73 = .ok (.iconst 0, 1) := by decide +kernel
theorem dX1_hasRoom_74 : decode cX1_hasRoom 74 = .ok (.ireturn, 1) := by decide +kernel
theorem dX1_hasRoom_75 : decode cX1_hasRoom 75 = .ok (.iinc 4 1, 3) := by decide +kernel
theorem dX1_hasRoom_78 : decode cX1_hasRoom 78 = .ok (.goto (-69), 3) := by decide +kernel
theorem dX1_hasRoom_81 : decode cX1_hasRoom 81 = .ok (.iconst 1, 1) := by decide +kernel
theorem dX1_hasRoom_82 : decode cX1_hasRoom 82 = .ok (.ireturn, 1) := by decide +kernel
theorem dX1_learn_0 : decode cX1_learn 0 = .ok (.aload_n 0, 1) := by decide +kernel
theorem dX1_learn_1 : decode cX1_learn 1 = .ok (.aload_n 0, 1) := by decide +kernel
theorem dX1_learn_2 : decode cX1_learn 2 = .ok (.iload_n 1, 1) := by decide +kernel
theorem dX1_learn_3 : decode cX1_learn 3 = .ok (.invokevirtual 48, 3) := by decide +kernel
theorem dX1_learn_6 : decode cX1_learn 6 = .ok (.iload_n 2, 1) := by decide +kernel
theorem dX1_learn_7 : decode cX1_learn 7 = .ok (.invokevirtual 54, 3) := by decide +kernel
theorem dX1_learn_10 : decode cX1_learn 10 = .ok (.ifCond .ne 15, 3) := by decide +kernel
theorem dX1_learn_13 : decode cX1_learn 13 = .ok (.aload_n 0, 1) := by decide +kernel
theorem dX1_learn_14 : decode cX1_learn 14 = .ok (.dup, 1) := by decide +kernel
theorem dX1_learn_15 : decode cX1_learn 15 = .ok (.getfield 38, 3) := by decide +kernel
theorem dX1_learn_18 : decode cX1_learn 18 = .ok (.iconst 1, 1) := by decide +kernel
theorem dX1_learn_19 : decode cX1_learn 19 = .ok (.iadd, 1) := by decide +kernel
theorem dX1_learn_20 : decode cX1_learn 20 = .ok (.putfield 38, 3) := by decide +kernel
theorem dX1_learn_23 : decode cX1_learn 23 = .ok (.iconst 0, 1) := by decide +kernel
theorem dX1_learn_24 : decode cX1_learn 24 = .ok (.ireturn, 1) := by decide +kernel
theorem dX1_learn_25 : decode cX1_learn 25 = .ok (.aload_n 0, 1) := by decide +kernel
theorem dX1_learn_26 : decode cX1_learn 26 = .ok (.iload_n 1, 1) := by decide +kernel
theorem dX1_learn_27 : decode cX1_learn 27 = .ok (.iload_n 2, 1) := by decide +kernel
theorem dX1_learn_28 : decode cX1_learn 28 = .ok (.invokevirtual 58, 3) := by decide +kernel
theorem dX1_learn_31 : decode cX1_learn 31 = .ok (.ifCond .ne 5, 3) := by decide +kernel
theorem dX1_learn_34 : decode cX1_learn 34 = .ok (.iconst (-1), 1) := by decide +kernel
theorem dX1_learn_35 : decode cX1_learn 35 = .ok (.ireturn, 1) := by decide +kernel
theorem dX1_learn_36 : decode cX1_learn 36 = .ok (.aload_n 0, 1) := by decide +kernel
theorem dX1_learn_37 : decode cX1_learn 37 = .ok (.dup, 1) := by decide +kernel
theorem dX1_learn_38 : decode cX1_learn 38 = .ok (.getfield 38, 3) := by decide +kernel
theorem dX1_learn_41 : decode cX1_learn 41 = .ok (.iconst 1, 1) := by decide +kernel
theorem dX1_learn_42 : decode cX1_learn 42 = .ok (.iadd, 1) := by decide +kernel
theorem dX1_learn_43 : decode cX1_learn 43 = .ok (.putfield 38, 3) := by decide +kernel
theorem dX1_learn_46 : decode cX1_learn 46 = .ok (.aload_n 0, 1) := by decide +kernel
theorem dX1_learn_47 : decode cX1_learn 47 = .ok (.iload_n 1, 1) := by decide +kernel
theorem dX1_learn_48 : decode cX1_learn 48 = .ok (.iload_n 2, 1) := by decide +kernel
theorem dX1_learn_49 : decode cX1_learn 49 = .ok (.invokevirtual 62, 3) := by decide +kernel
theorem dX1_learn_52 : decode cX1_learn 52 = .ok (.iconst 1, 1) := by decide +kernel
theorem dX1_learn_53 : decode cX1_learn 53 = .ok (.ireturn, 1) := by decide +kernel
theorem dX1_push_0 : decode cX1_push 0 = .ok (.aload_n 0, 1) := by decide +kernel
theorem dX1_push_1 : decode cX1_push 1 = .ok (.getfield 9, 3) := by decide +kernel
theorem dX1_push_4 : decode cX1_push 4 = .ok (.i2f, 1) := by decide +kernel
theorem dX1_push_5 : decode cX1_push 5 = .ok (.ldc 47, 2) := by decide +kernel
theorem dX1_push_7 : decode cX1_push 7 = .ok (.fdiv, 1) := by decide +kernel
theorem dX1_push_8 : decode cX1_push 8 = .ok (.fstore_n 3, 1) := by decide +kernel
theorem dX1_push_9 : decode cX1_push 9 = .ok (.iload_n 1, 1) := by decide +kernel
theorem dX1_push_10 : decode cX1_push 10 = .ok (.iconst 1, 1) := by decide +kernel
theorem dX1_push_11 : decode cX1_push 11 = .ok (.ishl, 1) := by decide +kernel
theorem dX1_push_12 : decode cX1_push 12 = .ok (.iconst 1, 1) := by decide +kernel
theorem dX1_push_13 : decode cX1_push 13 = .ok (.ior, 1) := by decide +kernel
theorem dX1_push_14 : decode cX1_push 14 = .ok (.istore 4, 2) := by decide +kernel
theorem dX1_push_16 : decode cX1_push 16 = .ok (.iconst 0, 1) := by decide +kernel
theorem dX1_push_17 : decode cX1_push 17 = .ok (.istore 5, 2) := by decide +kernel
theorem dX1_push_19 : decode cX1_push 19 = .ok (.iload 5, 2) := by decide +kernel
theorem dX1_push_21 : decode cX1_push 21 = .ok (.bipush 10, 2) := by decide +kernel
theorem dX1_push_23 : decode cX1_push 23 = .ok (.if_icmp .gt 78, 3) := by decide +kernel
theorem dX1_push_26 : decode cX1_push 26 = .ok (.iload 4, 2) := by decide +kernel
theorem dX1_push_28 : decode cX1_push 28 = .ok (.iload 5, 2) := by decide +kernel
theorem dX1_push_30 : decode cX1_push 30 = .ok (.ishr, 1) := by decide +kernel
theorem dX1_push_31 : decode cX1_push 31 = .ok (.iconst 1, 1) := by decide +kernel
theorem dX1_push_32 : decode cX1_push 32 = .ok (.iand, 1) := by decide +kernel
theorem dX1_push_33 : decode cX1_push 33 = .ok (.iconst 1, 1) := by decide +kernel
theorem dX1_push_34 : decode cX1_push 34 = .ok (.if_icmp .ne 61, 3) := by decide +kernel
theorem dX1_push_37 : decode cX1_push 37 = .ok (.aload_n 0, 1) := by decide +kernel
theorem dX1_push_38 : decode cX1_push 38 = .ok (.getfield 18, 3) := by decide +kernel
theorem dX1_push_41 : decode cX1_push 41 = .ok (.iload 5, 2) := by decide +kernel
theorem dX1_push_43 : decode cX1_push 43 = .ok (.iload_n 2, 1) := by decide +kernel
theorem dX1_push_44 : decode cX1_push 44 = .ok (.ifCond .eq 15, 3) := by decide +kernel
theorem dX1_push_47 : decode cX1_push 47 = .ok (.aload_n 0, 1) := by decide +kernel
theorem dX1_push_48 : decode cX1_push 48 = .ok (.getfield 18, 3) := by decide +kernel
theorem dX1_push_51 : decode cX1_push 51 = .ok (.iload 5, 2) := by decide +kernel
theorem dX1_push_53 : decode cX1_push 53 = .ok (.faload, 1) := by decide +kernel
theorem dX1_push_54 : decode cX1_push 54 = .ok (.fload_n 3, 1) := by decide +kernel
theorem dX1_push_55 : decode cX1_push 55 = .ok (.fadd, 1) := by decide +kernel
theorem dX1_push_56 : decode cX1_push 56 = .ok (.goto 12, 3) := by decide +kernel
theorem dX1_push_59 : decode cX1_push 59 = .ok (.aload_n 0, 1) := by decide +kernel
theorem dX1_push_60 : decode cX1_push 60 = .ok (.getfield 18, 3) := by decide +kernel
theorem dX1_push_63 : decode cX1_push 63 = .ok (.iload 5, 2) := by decide +kernel
theorem dX1_push_65 : decode cX1_push 65 = .ok (.faload, 1) := by decide +kernel
theorem dX1_push_66 : decode cX1_push 66 = .ok (.fload_n 3, 1) := by decide +kernel
theorem dX1_push_67 : decode cX1_push 67 = .ok (.fsub, 1) := by decide +kernel
theorem dX1_push_68 : decode cX1_push 68 = .ok (.fastore, 1) := by decide +kernel
theorem dX1_push_69 : decode cX1_push 69 = .ok (.aload_n 0, 1) := by decide +kernel
theorem dX1_push_70 : decode cX1_push 70 = .ok (.getfield 22, 3) := by decide +kernel
theorem dX1_push_73 : decode cX1_push 73 = .ok (.iload 5, 2) := by decide +kernel
theorem dX1_push_75 : decode cX1_push 75 = .ok (.dup2, 1) := by decide +kernel
theorem dX1_push_76 : decode cX1_push 76 = .ok (.iaload, 1) := by decide +kernel
theorem dX1_push_77 : decode cX1_push 77 = .ok (.iload_n 2, 1) := by decide +kernel
theorem dX1_push_78 : decode cX1_push 78 = .ok (.ifCond .eq 10, 3) := by decide +kernel
theorem dX1_push_81 : decode cX1_push 81 = .ok (.aload_n 0, 1) := by decide +kernel
theorem dX1_push_82 : decode cX1_push 82 = .ok (.getfield 9, 3) := by decide +kernel
theorem dX1_push_85 : decode cX1_push 85 = .ok (.goto 8, 3) := by decide +kernel
theorem dX1_push_88 : decode cX1_push 88 = .ok (.aload_n 0, 1) := by decide +kernel
theorem dX1_push_89 : decode cX1_push 89 = .ok (.getfield 9, 3) := by decide +kernel
theorem dX1_push_92 : decode cX1_push 92 = .ok (.ineg, 1) := by decide +kernel
theorem dX1_push_93 : decode cX1_push 93 = .ok (.iadd, 1) := by decide +kernel
theorem dX1_push_94 : decode cX1_push 94 = .ok (.iastore, 1) := by decide +kernel
theorem dX1_push_95 : decode cX1_push 95 = .ok (.iinc 5 1, 3) := by decide +kernel
theorem dX1_push_98 : decode cX1_push 98 = .ok (.goto (-79), 3) := by decide +kernel
theorem dX1_push_101 : decode cX1_push 101 = .ok (.aload_n 0, 1) := by decide +kernel
theorem dX1_push_102 : decode cX1_push 102 = .ok (.dup, 1) := by decide +kernel
theorem dX1_push_103 : decode cX1_push 103 = .ok (.getfield 32, 3) := by decide +kernel
theorem dX1_push_106 : decode cX1_push 106 = .ok (.iconst 1, 1) := by decide +kernel
theorem dX1_push_107 : decode cX1_push 107 = .ok (.iadd, 1) := by decide +kernel
theorem dX1_push_108 : decode cX1_push 108 = .ok (.putfield 32, 3) := by decide +kernel
theorem dX1_push_111 : decode cX1_push 111 = .ok (.return_, 1) := by decide +kernel
theorem dX1_endDay_0 : decode cX1_endDay 0 = .ok (.aload_n 0, 1) := by decide +kernel
theorem dX1_endDay_1 : decode cX1_endDay 1 = .ok (.dup, 1) := by decide +kernel
theorem dX1_endDay_2 : decode cX1_endDay 2 = .ok (.getfield 29, 3) := by decide +kernel
theorem dX1_endDay_5 : decode cX1_endDay 5 = .ok (.iconst 1, 1) := by decide +kernel
theorem dX1_endDay_6 : decode cX1_endDay 6 = .ok (.iadd, 1) := by decide +kernel
theorem dX1_endDay_7 : decode cX1_endDay 7 = .ok (.putfield 29, 3) := by decide +kernel
theorem dX1_endDay_10 : decode cX1_endDay 10 = .ok (.aload_n 0, 1) := by decide +kernel
theorem dX1_endDay_11 : decode cX1_endDay 11 = .ok (.iload_n 1, 1) := by decide +kernel
theorem dX1_endDay_12 : decode cX1_endDay 12 = .ok (.putfield 35, 3) := by decide +kernel
theorem dX1_endDay_15 : decode cX1_endDay 15 = .ok (.iconst 0, 1) := by decide +kernel
theorem dX1_endDay_16 : decode cX1_endDay 16 = .ok (.istore_n 2, 1) := by decide +kernel
theorem dX1_endDay_17 : decode cX1_endDay 17 = .ok (.iload_n 2, 1) := by decide +kernel
theorem dX1_endDay_18 : decode cX1_endDay 18 = .ok (.bipush 10, 2) := by decide +kernel
theorem dX1_endDay_20 : decode cX1_endDay 20 = .ok (.if_icmp .ge 30, 3) := by decide +kernel
theorem dX1_endDay_23 : decode cX1_endDay 23 = .ok (.aload_n 0, 1) := by decide +kernel
theorem dX1_endDay_24 : decode cX1_endDay 24 = .ok (.getfield 26, 3) := by decide +kernel
theorem dX1_endDay_27 : decode cX1_endDay 27 = .ok (.iload_n 2, 1) := by decide +kernel
theorem dX1_endDay_28 : decode cX1_endDay 28 = .ok (.aload_n 0, 1) := by decide +kernel
theorem dX1_endDay_29 : decode cX1_endDay 29 = .ok (.getfield 26, 3) := by decide +kernel
theorem dX1_endDay_32 : decode cX1_endDay 32 = .ok (.iload_n 2, 1) := by decide +kernel
theorem dX1_endDay_33 : decode cX1_endDay 33 = .ok (.faload, 1) := by decide +kernel
theorem dX1_endDay_34 : decode cX1_endDay 34 = .ok (.aload_n 0, 1) := by decide +kernel
theorem dX1_endDay_35 : decode cX1_endDay 35 = .ok (.getfield 18, 3) := by decide +kernel
theorem dX1_endDay_38 : decode cX1_endDay 38 = .ok (.iload_n 2, 1) := by decide +kernel
theorem dX1_endDay_39 : decode cX1_endDay 39 = .ok (.iconst 1, 1) := by decide +kernel
theorem dX1_endDay_40 : decode cX1_endDay 40 = .ok (.iadd, 1) := by decide +kernel
theorem dX1_endDay_41 : decode cX1_endDay 41 = .ok (.faload, 1) := by decide +kernel
theorem dX1_endDay_42 : decode cX1_endDay 42 = .ok (.fadd, 1) := by decide +kernel
theorem dX1_endDay_43 : decode cX1_endDay 43 = .ok (.fastore, 1) := by decide +kernel
theorem dX1_endDay_44 : decode cX1_endDay 44 = .ok (.iinc 2 1, 3) := by decide +kernel
theorem dX1_endDay_47 : decode cX1_endDay 47 = .ok (.goto (-30), 3) := by decide +kernel
theorem dX1_endDay_50 : decode cX1_endDay 50 = .ok (.return_, 1) := by decide +kernel
theorem dX1_strongerThan_0 : decode cX1_strongerThan 0 = .ok (.aload_n 0, 1) := by decide +kernel
theorem dX1_strongerThan_1 : decode cX1_strongerThan 1 = .ok (.getfield 18, 3) := by decide +kernel
theorem dX1_strongerThan_4 : decode cX1_strongerThan 4 = .ok (.iload_n 1, 1) := by decide +kernel
theorem dX1_strongerThan_5 : decode cX1_strongerThan 5 = .ok (.iconst 1, 1) := by decide +kernel
theorem dX1_strongerThan_6 : decode cX1_strongerThan 6 = .ok (.iadd, 1) := by decide +kernel
theorem dX1_strongerThan_7 : decode cX1_strongerThan 7 = .ok (.faload, 1) := by decide +kernel
theorem dX1_strongerThan_8 : decode cX1_strongerThan 8 = .ok (.fstore_n 2, 1) := by decide +kernel
theorem dX1_strongerThan_9 : decode cX1_strongerThan 9 = .ok (.iconst 0, 1) := by decide +kernel
theorem dX1_strongerThan_10 : decode cX1_strongerThan 10 = .ok (.istore_n 3, 1) := by decide +kernel
theorem dX1_strongerThan_11 : decode cX1_strongerThan 11 = .ok (.iconst 0, 1) := by decide +kernel
theorem dX1_strongerThan_12 : decode cX1_strongerThan 12 = .ok (.istore 4, 2) := by decide +kernel
theorem dX1_strongerThan_14 : decode cX1_strongerThan 14 = .ok (.iload 4, 2) := by decide +kernel
theorem dX1_strongerThan_16 : decode cX1_strongerThan 16 = .ok (.bipush 10, 2) := by decide +kernel
theorem dX1_strongerThan_18 : decode cX1_strongerThan 18 = .ok (.if_icmp .ge 43, 3) := by decide +kernel
theorem dX1_strongerThan_21 : decode cX1_strongerThan 21 = .ok (.aload_n 0, 1) := by decide +kernel
theorem dX1_strongerThan_22 : decode cX1_strongerThan 22 = .ok (.getfield 18, 3) := by decide +kernel
theorem dX1_strongerThan_25 : decode cX1_strongerThan 25 = .ok (.iload 4, 2) := by decide +kernel
theorem dX1_strongerThan_27 : decode cX1_strongerThan 27 = .ok (.iconst 1, 1) := by decide +kernel
theorem dX1_strongerThan_28 : decode cX1_strongerThan 28 = .ok (.iadd, 1) := by decide +kernel
theorem dX1_strongerThan_29 : decode cX1_strongerThan 29 = .ok (.faload, 1) := by decide +kernel
theorem dX1_strongerThan_30 : decode cX1_strongerThan 30 = .ok (.fstore 5, 2) := by decide +kernel
theorem dX1_strongerThan_32 : decode cX1_strongerThan 32 = .ok (.fload 5, 2) := by decide +kernel
theorem dX1_strongerThan_34 : decode cX1_strongerThan 34 = .ok (.fload_n 2, 1) := by decide +kernel
theorem dX1_strongerThan_35 : decode cX1_strongerThan 35 = .ok (.fcmp .l, 1) := by decide +kernel
theorem dX1_strongerThan_36 : decode cX1_strongerThan 36 = .ok (.ifCond .gt 16, 3) := by decide +kernel
theorem dX1_strongerThan_39 : decode cX1_strongerThan 39 = .ok (.fload 5, 2) := by decide +kernel
theorem dX1_strongerThan_41 : decode cX1_strongerThan 41 = .ok (.fload_n 2, 1) := by decide +kernel
theorem dX1_strongerThan_42 : decode cX1_strongerThan 42 = .ok (.fcmp .l, 1) := by decide +kernel
theorem dX1_strongerThan_43 : decode cX1_strongerThan 43 = .ok (.ifCond .ne 12, 3) := by decide +kernel
theorem dX1_strongerThan_46 : decode cX1_strongerThan 46 = .ok (.iload 4, 2) := by decide +kernel
theorem dX1_strongerThan_48 : decode cX1_strongerThan 48 = .ok (.iload_n 1, 1) := by decide +kernel
theorem dX1_strongerThan_49 : decode cX1_strongerThan 49 = .ok (.if_icmp .ge 6, 3) := by decide +kernel
theorem dX1_strongerThan_52 : decode cX1_strongerThan 52 = .ok (.iinc 3 1, 3) := by decide +kernel
theorem dX1_strongerThan_55 : decode cX1_strongerThan 55 = .ok (.iinc 4 1, 3) := by decide +kernel
theorem dX1_strongerThan_58 : decode cX1_strongerThan 58 = .ok (.goto (-44), 3) := by decide +kernel
theorem dX1_strongerThan_61 : decode cX1_strongerThan 61 = .ok (.iload_n 3, 1) := by decide +kernel
theorem dX1_strongerThan_62 : decode cX1_strongerThan 62 = .ok (.ireturn, 1) := by decide +kernel
theorem dX1_isAsCounted_0 : decode cX1_isAsCounted 0 = .ok (.iconst 0, 1) := by decide +kernel
theorem dX1_isAsCounted_1 : decode cX1_isAsCounted 1 = .ok (.istore_n 1, 1) := by decide +kernel
theorem dX1_isAsCounted_2 : decode cX1_isAsCounted 2 = .ok (.iload_n 1, 1) := by decide +kernel
theorem dX1_isAsCounted_3 : decode cX1_isAsCounted 3 = .ok (.bipush 10, 2) := by decide +kernel
theorem dX1_isAsCounted_5 : decode cX1_isAsCounted 5 = .ok (.if_icmp .gt 31, 3) := by decide +kernel
theorem dX1_isAsCounted_8 : decode cX1_isAsCounted 8 = .ok (.aload_n 0, 1) := by decide +kernel
theorem dX1_isAsCounted_9 : decode cX1_isAsCounted 9 = .ok (.getfield 18, 3) := by decide +kernel
theorem dX1_isAsCounted_12 : decode cX1_isAsCounted 12 = .ok (.iload_n 1, 1) := by decide +kernel
theorem dX1_isAsCounted_13 : decode cX1_isAsCounted 13 = .ok (.faload, 1) := by decide +kernel
theorem dX1_isAsCounted_14 : decode cX1_isAsCounted 14 = .ok (.aload_n 0, 1) := by decide +kernel
theorem dX1_isAsCounted_15 : decode cX1_isAsCounted 15 = .ok (.getfield 22, 3) := by decide +kernel
theorem dX1_isAsCounted_18 : decode cX1_isAsCounted 18 = .ok (.iload_n 1, 1) := by decide +kernel
theorem dX1_isAsCounted_19 : decode cX1_isAsCounted 19 = .ok (.iaload, 1) := by decide +kernel
theorem dX1_isAsCounted_20 : decode cX1_isAsCounted 20 = .ok (.i2f, 1) := by decide +kernel
theorem dX1_isAsCounted_21 : decode cX1_isAsCounted 21 = .ok (.ldc 47, 2) := by decide +kernel
theorem dX1_isAsCounted_23 : decode cX1_isAsCounted 23 = .ok (.fdiv, 1) := by decide +kernel
theorem dX1_isAsCounted_24 : decode cX1_isAsCounted 24 = .ok (.fcmp .l, 1) := by decide +kernel
theorem dX1_isAsCounted_25 : decode cX1_isAsCounted 25 = .ok (.ifCond .eq 5, 3) := by decide +kernel
theorem dX1_isAsCounted_28 : decode cX1_isAsCounted 28 = .ok (.iconst 0, 1) := by decide +kernel
theorem dX1_isAsCounted_29 : decode cX1_isAsCounted 29 = .ok (.ireturn, 1) := by decide +kernel
theorem dX1_isAsCounted_30 : decode cX1_isAsCounted 30 = .ok (.iinc 1 1, 3) := by decide +kernel
theorem dX1_isAsCounted_33 : decode cX1_isAsCounted 33 = .ok (.goto (-31), 3) := by decide +kernel
theorem dX1_isAsCounted_36 : decode cX1_isAsCounted 36 = .ok (.iconst 1, 1) := by decide +kernel
theorem dX1_isAsCounted_37 : decode cX1_isAsCounted 37 = .ok (.ireturn, 1) := by decide +kernel
theorem dX2_init_0 : decode cX2_init 0 = .ok (.aload_n 0, 1) := by decide +kernel
theorem dX2_init_1 : decode cX2_init 1 = .ok (.invokespecial 3, 3) := by decide +kernel
theorem dX2_init_4 : decode cX2_init 4 = .ok (.aload_n 0, 1) := by decide +kernel
theorem dX2_init_5 : decode cX2_init 5 = .ok (.bipush 60, 2) := by decide +kernel
theorem dX2_init_7 : decode cX2_init 7 = .ok (.newarray .char, 2) := by decide +kernel
theorem dX2_init_9 : decode cX2_init 9 = .ok (.putfield 9, 3) := by decide +kernel
theorem dX2_init_12 : decode cX2_init 12 = .ok (.aload_n 0, 1) := by decide +kernel
theorem dX2_init_13 : decode cX2_init 13 = .ok (.iconst 0, 1) := by decide +kernel
theorem dX2_init_14 : decode cX2_init 14 = .ok (.putfield 15, 3) := by decide +kernel
theorem dX2_init_17 : decode cX2_init 17 = .ok (.aload_n 0, 1) := by decide +kernel
theorem dX2_init_18 : decode cX2_init 18 = .ok (.bipush 60, 2) := by decide +kernel
theorem dX2_init_20 : decode cX2_init 20 = .ok (.newarray .char, 2) := by decide +kernel
theorem dX2_init_22 : decode cX2_init 22 = .ok (.putfield 19, 3) := by decide +kernel
theorem dX2_init_25 : decode cX2_init 25 = .ok (.aload_n 0, 1) := by decide +kernel
theorem dX2_init_26 : decode cX2_init 26 = .ok (.bipush 60, 2) := by decide +kernel
theorem dX2_init_28 : decode cX2_init 28 = .ok (.newarray .int, 2) := by decide +kernel
theorem dX2_init_30 : decode cX2_init 30 = .ok (.putfield 22, 3) := by decide +kernel
theorem dX2_init_33 : decode cX2_init 33 = .ok (.aload_n 0, 1) := by decide +kernel
theorem dX2_init_34 : decode cX2_init 34 = .ok (.bipush 60, 2) := by decide +kernel
theorem dX2_init_36 : decode cX2_init 36 = .ok (.newarray .int, 2) := by decide +kernel
theorem dX2_init_38 : decode cX2_init 38 = .ok (.putfield 26, 3) := by decide +kernel
theorem dX2_init_41 : decode cX2_init 41 = .ok (.aload_n 0, 1) := by decide +kernel
theorem dX2_init_42 : decode cX2_init 42 = .ok (.iconst 0, 1) := by decide +kernel
theorem dX2_init_43 : decode cX2_init 43 = .ok (.putfield 29, 3) := by decide +kernel
theorem dX2_init_46 : decode cX2_init 46 = .ok (.aload_n 0, 1) := by decide +kernel
theorem dX2_init_47 : decode cX2_init 47 = .ok (.iconst 0, 1) := by decide +kernel
theorem dX2_init_48 : decode cX2_init 48 = .ok (.putfield 32, 3) := by decide +kernel
theorem dX2_init_51 : decode cX2_init 51 = .ok (.return_, 1) := by decide +kernel
theorem dX2_read_0 : decode cX2_read 0 = .ok (.aload_n 0, 1) := by decide +kernel
theorem dX2_read_1 : decode cX2_read 1 = .ok (.iconst 0, 1) := by decide +kernel
theorem dX2_read_2 : decode cX2_read 2 = .ok (.putfield 32, 3) := by decide +kernel
theorem dX2_read_5 : decode cX2_read 5 = .ok (.aload_n 0, 1) := by decide +kernel
theorem dX2_read_6 : decode cX2_read 6 = .ok (.iconst 0, 1) := by decide +kernel
theorem dX2_read_7 : decode cX2_read 7 = .ok (.putfield 29, 3) := by decide +kernel
theorem dX2_read_10 : decode cX2_read 10 = .ok (.iconst 0, 1) := by decide +kernel
theorem dX2_read_11 : decode cX2_read 11 = .ok (.istore_n 1, 1) := by decide +kernel
theorem dX2_read_12 : decode cX2_read 12 = .ok (.iload_n 1, 1) := by decide +kernel
theorem dX2_read_13 : decode cX2_read 13 = .ok (.bipush 60, 2) := by decide +kernel
theorem dX2_read_15 : decode cX2_read 15 = .ok (.if_icmp .ge 52, 3) := by decide +kernel
theorem dX2_read_18 : decode cX2_read 18 = .ok (.aload_n 0, 1) := by decide +kernel
theorem dX2_read_19 : decode cX2_read 19 = .ok (.invokevirtual 35, 3) := by decide +kernel
theorem dX2_read_22 : decode cX2_read 22 = .ok (.ifCond .ne 5, 3) := by decide +kernel
theorem dX2_read_25 : decode cX2_read 25 = .ok (.iconst 0, 1) := by decide +kernel
theorem dX2_read_26 : decode cX2_read 26 = .ok (.ireturn, 1) := by decide +kernel
theorem dX2_read_27 : decode cX2_read 27 = .ok (.aload_n 0, 1) := by decide +kernel
theorem dX2_read_28 : decode cX2_read 28 = .ok (.getfield 32, 3) := by decide +kernel
theorem dX2_read_31 : decode cX2_read 31 = .ok (.aload_n 0, 1) := by decide +kernel
theorem dX2_read_32 : decode cX2_read 32 = .ok (.getfield 15, 3) := by decide +kernel
theorem dX2_read_35 : decode cX2_read 35 = .ok (.if_icmp .ne 5, 3) := by decide +kernel
theorem dX2_read_38 : decode cX2_read 38 = .ok (.iconst 1, 1) := by decide +kernel
theorem dX2_read_39 : decode cX2_read 39 = .ok (.ireturn, 1) := by decide +kernel
theorem dX2_read_40 : decode cX2_read 40 = .ok (.aload_n 0, 1) := by decide +kernel
theorem dX2_read_41 : decode cX2_read 41 = .ok (.invokevirtual 39, 3) := by decide +kernel
theorem dX2_read_44 : decode cX2_read 44 = .ok (.bipush 59, 2) := by decide +kernel
theorem dX2_read_46 : decode cX2_read 46 = .ok (.if_icmp .eq 5, 3) := by decide +kernel
theorem dX2_read_49 : decode cX2_read 49 = .ok (.iconst 0, 1) := by decide +kernel
theorem dX2_read_50 : decode cX2_read 50 = .ok (.ireturn, 1) := by decide +kernel
theorem dX2_read_51 : decode cX2_read 51 = .ok (.aload_n 0, 1) := by decide +kernel
theorem dX2_read_52 : decode cX2_read 52 = .ok (.dup, 1) := by decide +kernel
theorem dX2_read_53 : decode cX2_read 53 = .ok (.getfield 32, 3) := by decide +kernel
theorem dX2_read_56 : decode cX2_read 56 = .ok (.iconst 1, 1) := by decide +kernel
theorem dX2_read_57 : decode cX2_read 57 = .ok (.iadd, 1) := by decide +kernel
theorem dX2_read_58 : decode cX2_read 58 = .ok (.putfield 32, 3) := by decide +kernel
theorem dX2_read_61 : decode cX2_read 61 = .ok (.iinc 1 1, 3) := by decide +kernel
theorem dX2_read_64 : decode cX2_read 64 = .ok (.goto (-52), 3) := by decide +kernel
theorem dX2_read_67 : decode cX2_read 67 = .ok (.iconst 0, 1) := by decide +kernel
theorem dX2_read_68 : decode cX2_read 68 = .ok (.ireturn, 1) := by decide +kernel
theorem dX2_sign_0 : decode cX2_sign 0 = .ok (.aload_n 0, 1) := by decide +kernel
theorem dX2_sign_1 : decode cX2_sign 1 = .ok (.getfield 32, 3) := by decide +kernel
theorem dX2_sign_4 : decode cX2_sign 4 = .ok (.aload_n 0, 1) := by decide +kernel
theorem dX2_sign_5 : decode cX2_sign 5 = .ok (.getfield 15, 3) := by decide +kernel
theorem dX2_sign_8 : decode cX2_sign 8 = .ok (.if_icmp .ge 15, 3) := by decide +kernel
theorem dX2_sign_11 : decode cX2_sign 11 = .ok (.aload_n 0, 1) := by decide +kernel
theorem dX2_sign_12 : decode cX2_sign 12 = .ok (.getfield 9, 3) := by decide +kernel
theorem dX2_sign_15 : decode cX2_sign 15 = .ok (.aload_n 0, 1) := by decide +kernel
theorem dX2_sign_16 : decode cX2_sign 16 = .ok (.getfield 32, 3) := by decide +kernel
theorem dX2_sign_19 : decode cX2_sign 19 = .ok (.caload, 1) := by decide +kernel
theorem dX2_sign_20 : decode cX2_sign 20 = .ok (.goto 4, 3) := by decide +kernel
theorem dX2_sign_23 : decode cX2_sign 23 = .ok (.iconst 0, 1) := by decide +kernel
theorem dX2_sign_24 : decode cX2_sign 24 = .ok (.ireturn, 1) := by decide +kernel
theorem dX2_readOrder_0 : decode cX2_readOrder 0 = .ok (.aload_n 0, 1) := by decide +kernel
theorem dX2_readOrder_1 : decode cX2_readOrder 1 = .ok (.invokevirtual 39, 3) := by decide +kernel
theorem dX2_readOrder_4 : decode cX2_readOrder 4 = .ok (.istore_n 1, 1) := by decide +kernel
theorem dX2_readOrder_5 : decode cX2_readOrder 5 = .ok (.iconst (-1), 1) := by decide +kernel
theorem dX2_readOrder_6 : decode cX2_readOrder 6 = .ok (.istore_n 2, 1) := by decide +kernel
theorem dX2_readOrder_7 : decode cX2_readOrder 7 = .ok (.iconst 0, 1) := by decide +kernel
theorem dX2_readOrder_8 : decode cX2_readOrder 8 = .ok (.istore_n 3, 1) := by decide +kernel
theorem dX2_readOrder_9 : decode cX2_readOrder 9 = .ok (.iload_n 1, 1) := by decide +kernel
theorem dX2_readOrder_10 : decode cX2_readOrder 10 = .ok (.bipush 43, 2) := by decide +kernel
theorem dX2_readOrder_12 : decode cX2_readOrder 12 = .ok (.if_icmp .eq 9, 3) := by decide +kernel
theorem dX2_readOrder_15 : decode cX2_readOrder 15 = .ok (.iload_n 1, 1) := by decide +kernel
theorem dX2_readOrder_16 : decode cX2_readOrder 16 = .ok (.bipush 45, 2) := by decide +kernel
theorem dX2_readOrder_18 : decode cX2_readOrder 18 = .ok (.if_icmp .ne 21, 3) := by decide +kernel
theorem dX2_readOrder_21 : decode cX2_readOrder 21 = .ok (.aload_n 0, 1) := by decide +kernel
theorem dX2_readOrder_22 : decode cX2_readOrder 22 = .ok (.dup, 1) := by decide +kernel
theorem dX2_readOrder_23 : decode cX2_readOrder 23 = .ok (.getfield 32, 3) := by decide +kernel
theorem dX2_readOrder_26 : decode cX2_readOrder 26 = .ok (.iconst 1, 1) := by decide +kernel
theorem dX2_readOrder_27 : decode cX2_readOrder 27 = .ok (.iadd, 1) := by decide +kernel
theorem dX2_readOrder_28 : decode cX2_readOrder 28 = .ok (.putfield 32, 3) := by decide +kernel
theorem dX2_readOrder_31 : decode cX2_readOrder 31 = .ok (.aload_n 0, 1) := by decide +kernel
theorem dX2_readOrder_32 : decode cX2_readOrder 32 = .ok (.invokevirtual 43, 3) := by decide +kernel
theorem dX2_readOrder_35 : decode cX2_readOrder 35 = .ok (.istore_n 2, 1) := by decide +kernel
theorem dX2_readOrder_36 : decode cX2_readOrder 36 = .ok (.goto 92, 3) := by decide +kernel
theorem dX2_readOrder_39 : decode cX2_readOrder 39 = .ok (.iload_n 1, 1) := by decide +kernel
theorem dX2_readOrder_40 : decode cX2_readOrder 40 = .ok (.bipush 120, 2) := by decide +kernel
theorem dX2_readOrder_42 : decode cX2_readOrder 42 = .ok (.if_icmp .eq 9, 3) := by decide +kernel
theorem dX2_readOrder_45 : decode cX2_readOrder 45 = .ok (.iload_n 1, 1) := by decide +kernel
theorem dX2_readOrder_46 : decode cX2_readOrder 46 = .ok (.bipush 103, 2) := by decide +kernel
theorem dX2_readOrder_48 : decode cX2_readOrder 48 = .ok (.if_icmp .ne 21, 3) := by decide +kernel
theorem dX2_readOrder_51 : decode cX2_readOrder 51 = .ok (.aload_n 0, 1) := by decide +kernel
theorem dX2_readOrder_52 : decode cX2_readOrder 52 = .ok (.dup, 1) := by decide +kernel
theorem dX2_readOrder_53 : decode cX2_readOrder 53 = .ok (.getfield 32, 3) := by decide +kernel
theorem dX2_readOrder_56 : decode cX2_readOrder 56 = .ok (.iconst 1, 1) := by decide +kernel
theorem dX2_readOrder_57 : decode cX2_readOrder 57 = .ok (.iadd, 1) := by decide +kernel
theorem dX2_readOrder_58 : decode cX2_readOrder 58 = .ok (.putfield 32, 3) := by decide +kernel
theorem dX2_readOrder_61 : decode cX2_readOrder 61 = .ok (.aload_n 0, 1) := by decide +kernel
theorem dX2_readOrder_62 : decode cX2_readOrder 62 = .ok (.invokevirtual 47, 3) := by decide +kernel
theorem dX2_readOrder_65 : decode cX2_readOrder 65 = .ok (.istore_n 2, 1) := by decide +kernel
theorem dX2_readOrder_66 : decode cX2_readOrder 66 = .ok (.goto 62, 3) := by decide +kernel
theorem dX2_readOrder_69 : decode cX2_readOrder 69 = .ok (.iload_n 1, 1) := by decide +kernel
theorem dX2_readOrder_70 : decode cX2_readOrder 70 = .ok (.bipush 100, 2) := by decide +kernel
theorem dX2_readOrder_72 : decode cX2_readOrder 72 = .ok (.if_icmp .ne 21, 3) := by decide +kernel
theorem dX2_readOrder_75 : decode cX2_readOrder 75 = .ok (.aload_n 0, 1) := by decide +kernel
theorem dX2_readOrder_76 : decode cX2_readOrder 76 = .ok (.dup, 1) := by decide +kernel
theorem dX2_readOrder_77 : decode cX2_readOrder 77 = .ok (.getfield 32, 3) := by decide +kernel
theorem dX2_readOrder_80 : decode cX2_readOrder 80 = .ok (.iconst 1, 1) := by decide +kernel
theorem dX2_readOrder_81 : decode cX2_readOrder 81 = .ok (.iadd, 1) := by decide +kernel
theorem dX2_readOrder_82 : decode cX2_readOrder 82 = .ok (.putfield 32, 3) := by decide +kernel
theorem dX2_readOrder_85 : decode cX2_readOrder 85 = .ok (.aload_n 0, 1) := by decide +kernel
theorem dX2_readOrder_86 : decode cX2_readOrder 86 = .ok (.invokevirtual 50, 3) := by decide +kernel
theorem dX2_readOrder_89 : decode cX2_readOrder 89 = .ok (.istore_n 2, 1) := by decide +kernel
theorem dX2_readOrder_90 : decode cX2_readOrder 90 = .ok (.goto 38, 3) := by decide +kernel
theorem dX2_readOrder_93 : decode cX2_readOrder 93 = .ok (.iload_n 1, 1) := by decide +kernel
theorem dX2_readOrder_94 : decode cX2_readOrder 94 = .ok (.bipush 116, 2) := by decide +kernel
theorem dX2_readOrder_96 : decode cX2_readOrder 96 = .ok (.if_icmp .ne 32, 3) := by decide +kernel
theorem dX2_readOrder_99 : decode cX2_readOrder 99 = .ok (.aload_n 0, 1) := by decide +kernel
theorem dX2_readOrder_100 : decode cX2_readOrder 100 = .ok (.dup, 1) := by decide +kernel
theorem dX2_readOrder_101 : decode cX2_readOrder 101 = .ok (.getfield 32, 3) := by decide +kernel
theorem dX2_readOrder_104 : decode cX2_readOrder 104 = .ok (.iconst 1, 1) := by decide +kernel
theorem dX2_readOrder_105 : decode cX2_readOrder 105 = .ok (.iadd, 1) := by decide +kernel
theorem dX2_readOrder_106 : decode cX2_readOrder 106 = .ok (.putfield 32, 3) := by decide +kernel
theorem dX2_readOrder_109 : decode cX2_readOrder 109 = .ok (.aload_n 0, 1) := by decide +kernel
theorem dX2_readOrder_110 : decode cX2_readOrder 110 = .ok (.invokevirtual 50, 3) := by decide +kernel
theorem dX2_readOrder_113 : decode cX2_readOrder 113 = .ok (.istore_n 2, 1) := by decide +kernel
theorem dX2_readOrder_114 : decode cX2_readOrder 114 = .ok (.iload_n 2, 1) := by decide +kernel
theorem dX2_readOrder_115 : decode cX2_readOrder 115 = .ok (.iconst (-1), 1) := by decide +kernel
theorem dX2_readOrder_116 : decode cX2_readOrder 116 = .ok (.if_icmp .ne 7, 3) := by decide +kernel
theorem dX2_readOrder_119 : decode cX2_readOrder 119 = .ok (.iconst (-1), 1) := by decide +kernel
theorem dX2_readOrder_120 : decode cX2_readOrder 120 = .ok (.goto 7, 3) := by decide +kernel
theorem dX2_readOrder_123 : decode cX2_readOrder 123 = .ok (.aload_n 0, 1) := by decide +kernel
theorem dX2_readOrder_124 : decode cX2_readOrder 124 = .ok (.invokevirtual 53, 3) := by decide +kernel
theorem dX2_readOrder_127 : decode cX2_readOrder 127 = .ok (.istore_n 3, 1) := by decide +kernel
theorem dX2_readOrder_128 : decode cX2_readOrder 128 = .ok (.iload_n 2, 1) := by decide +kernel
theorem dX2_readOrder_129 : decode cX2_readOrder 129 = .ok (.iconst (-1), 1) := by decide +kernel
theorem dX2_readOrder_130 : decode cX2_readOrder 130 = .ok (.if_icmp .eq 8, 3) := by decide +kernel
theorem dX2_readOrder_133 : decode cX2_readOrder 133 = .ok (.iload_n 3, 1) := by decide +kernel
theorem dX2_readOrder_134 : decode cX2_readOrder 134 = .ok (.iconst (-1), 1) := by decide +kernel
theorem dX2_readOrder_135 : decode cX2_readOrder 135 = .ok (.if_icmp .ne 5, 3) := by decide +kernel
theorem dX2_readOrder_138 : decode cX2_readOrder 138 = .ok (.iconst 0, 1) := by decide +kernel
theorem dX2_readOrder_139 : decode cX2_readOrder 139 = .ok (.ireturn, 1) := by decide +kernel
theorem dX2_readOrder_140 : decode cX2_readOrder 140 = .ok (.aload_n 0, 1) := by decide +kernel
theorem dX2_readOrder_141 : decode cX2_readOrder 141 = .ok (.getfield 19, 3) := by decide +kernel
theorem dX2_readOrder_144 : decode cX2_readOrder 144 = .ok (.aload_n 0, 1) := by decide +kernel
theorem dX2_readOrder_145 : decode cX2_readOrder 145 = .ok (.getfield 29, 3) := by decide +kernel
theorem dX2_readOrder_148 : decode cX2_readOrder 148 = .ok (.iload_n 1, 1) := by decide +kernel
theorem dX2_readOrder_149 : decode cX2_readOrder 149 = .ok (.castore, 1) := by decide +kernel
theorem dX2_readOrder_150 : decode cX2_readOrder 150 = .ok (.aload_n 0, 1) := by decide +kernel
theorem dX2_readOrder_151 : decode cX2_readOrder 151 = .ok (.getfield 22, 3) := by decide +kernel
theorem dX2_readOrder_154 : decode cX2_readOrder 154 = .ok (.aload_n 0, 1) := by decide +kernel
theorem dX2_readOrder_155 : decode cX2_readOrder 155 = .ok (.getfield 29, 3) := by decide +kernel
theorem dX2_readOrder_158 : decode cX2_readOrder 158 = .ok (.iload_n 2, 1) := by decide +kernel
theorem dX2_readOrder_159 : decode cX2_readOrder 159 = .ok (.iastore, 1) := by decide +kernel
theorem dX2_readOrder_160 : decode cX2_readOrder 160 = .ok (.aload_n 0, 1) := by decide +kernel
theorem dX2_readOrder_161 : decode cX2_readOrder 161 = .ok (.getfield 26, 3) := by decide +kernel
theorem dX2_readOrder_164 : decode cX2_readOrder 164 = .ok (.aload_n 0, 1) := by decide +kernel
theorem dX2_readOrder_165 : decode cX2_readOrder 165 = .ok (.getfield 29, 3) := by decide +kernel
theorem dX2_readOrder_168 : decode cX2_readOrder 168 = .ok (.iload_n 3, 1) := by decide +kernel
theorem dX2_readOrder_169 : decode cX2_readOrder 169 = .ok (.iastore, 1) := by decide +kernel
theorem dX2_readOrder_170 : decode cX2_readOrder 170 = .ok (.aload_n 0, 1) := by decide +kernel
theorem dX2_readOrder_171 : decode cX2_readOrder 171 = .ok (.dup, 1) := by decide +kernel
theorem dX2_readOrder_172 : decode cX2_readOrder 172 = .ok (.getfield 29, 3) := by decide +kernel
theorem dX2_readOrder_175 : decode cX2_readOrder 175 = .ok (.iconst 1, 1) := by decide +kernel
theorem dX2_readOrder_176 : decode cX2_readOrder 176 = .ok (.iadd, 1) := by decide +kernel
theorem dX2_readOrder_177 : decode cX2_readOrder 177 = .ok (.putfield 29, 3) := by decide +kernel
theorem dX2_readOrder_180 : decode cX2_readOrder 180 = .ok (.iconst 1, 1) := by decide +kernel
theorem dX2_readOrder_181 : decode cX2_readOrder 181 = .ok (.ireturn, 1) := by decide +kernel
theorem dX2_readBadges_0 : decode cX2_readBadges 0 = .ok (.iconst 0, 1) := by decide +kernel
theorem dX2_readBadges_1 : decode cX2_readBadges 1 = .ok (.istore_n 1, 1) := by decide +kernel
theorem dX2_readBadges_2 : decode cX2_readBadges 2 = .ok (.iconst 0, 1) := by decide +kernel
theorem dX2_readBadges_3 : decode cX2_readBadges 3 = .ok (.istore_n 2, 1) := by decide +kernel
theorem dX2_readBadges_4 : decode cX2_readBadges 4 = .ok (.iload_n 2, 1) := by decide +kernel
theorem dX2_readBadges_5 : decode cX2_readBadges 5 = .ok (.bipush 10, 2) := by decide +kernel
theorem dX2_readBadges_7 : decode cX2_readBadges 7 = .ok (.if_icmp .ge 36, 3) := by decide +kernel
theorem dX2_readBadges_10 : decode cX2_readBadges 10 = .ok (.aload_n 0, 1) := by decide +kernel
theorem dX2_readBadges_11 : decode cX2_readBadges 11 = .ok (.invokevirtual 39, 3) := by decide +kernel
theorem dX2_readBadges_14 : decode cX2_readBadges 14 = .ok (.bipush 97, 2) := by decide +kernel
theorem dX2_readBadges_16 : decode cX2_readBadges 16 = .ok (.iload_n 2, 1) := by decide +kernel
theorem dX2_readBadges_17 : decode cX2_readBadges 17 = .ok (.iadd, 1) := by decide +kernel
theorem dX2_readBadges_18 : decode cX2_readBadges 18 = .ok (.if_icmp .ne 19, 3) := by decide +kernel
theorem dX2_readBadges_21 : decode cX2_readBadges 21 = .ok (.iload_n 1, 1) := by decide +kernel
theorem dX2_readBadges_22 : decode cX2_readBadges 22 = .ok (.iconst 1, 1) := by decide +kernel
theorem dX2_readBadges_23 : decode cX2_readBadges 23 = .ok (.iload_n 2, 1) := by decide +kernel
theorem dX2_readBadges_24 : decode cX2_readBadges 24 = .ok (.ishl, 1) := by decide +kernel
theorem dX2_readBadges_25 : decode cX2_readBadges 25 = .ok (.ior, 1) := by decide +kernel
theorem dX2_readBadges_26 : decode cX2_readBadges 26 = .ok (.istore_n 1, 1) := by decide +kernel
theorem dX2_readBadges_27 : decode cX2_readBadges 27 = .ok (.aload_n 0, 1) := by decide +kernel
theorem dX2_readBadges_28 : decode cX2_readBadges 28 = .ok (.dup, 1) := by decide +kernel
theorem dX2_readBadges_29 : decode cX2_readBadges 29 = .ok (.getfield 32, 3) := by decide +kernel
theorem dX2_readBadges_32 : decode cX2_readBadges 32 = .ok (.iconst 1, 1) := by decide +kernel
theorem dX2_readBadges_33 : decode cX2_readBadges 33 = .ok (.iadd, 1) := by decide +kernel
theorem dX2_readBadges_34 : decode cX2_readBadges 34 = .ok (.putfield 32, 3) := by decide +kernel
theorem dX2_readBadges_37 : decode cX2_readBadges 37 = .ok (.iinc 2 1, 3) := by decide +kernel
theorem dX2_readBadges_40 : decode cX2_readBadges 40 = .ok (.goto (-36), 3) := by decide +kernel
theorem dX2_readBadges_43 : decode cX2_readBadges 43 = .ok (.iload_n 1, 1) := by decide +kernel
theorem dX2_readBadges_44 : decode cX2_readBadges 44 = .ok (.ifCond .ne 7, 3) := by decide +kernel
theorem dX2_readBadges_47 : decode cX2_readBadges 47 = .ok (.iconst (-1), 1) := by decide +kernel
theorem dX2_readBadges_48 : decode cX2_readBadges 48 = .ok (.goto 4, 3) := by decide +kernel
theorem dX2_readBadges_51 : decode cX2_readBadges 51 = .ok (.iload_n 1, 1) := by decide +kernel
theorem dX2_readBadges_52 : decode cX2_readBadges 52 = .ok (.ireturn, 1) := by decide +kernel
theorem dX2_readTaught_0 : decode cX2_readTaught 0 = .ok (.aload_n 0, 1) := by decide +kernel
theorem dX2_readTaught_1 : decode cX2_readTaught 1 = .ok (.invokevirtual 39, 3) := by decide +kernel
theorem dX2_readTaught_4 : decode cX2_readTaught 4 = .ok (.bipush 58, 2) := by decide +kernel
theorem dX2_readTaught_6 : decode cX2_readTaught 6 = .ok (.if_icmp .eq 5, 3) := by decide +kernel
theorem dX2_readTaught_9 : decode cX2_readTaught 9 = .ok (.iconst (-1), 1) := by decide +kernel
theorem dX2_readTaught_10 : decode cX2_readTaught 10 = .ok (.ireturn, 1) := by decide +kernel
theorem dX2_readTaught_11 : decode cX2_readTaught 11 = .ok (.aload_n 0, 1) := by decide +kernel
theorem dX2_readTaught_12 : decode cX2_readTaught 12 = .ok (.dup, 1) := by decide +kernel
theorem dX2_readTaught_13 : decode cX2_readTaught 13 = .ok (.getfield 32, 3) := by decide +kernel
theorem dX2_readTaught_16 : decode cX2_readTaught 16 = .ok (.iconst 1, 1) := by decide +kernel
theorem dX2_readTaught_17 : decode cX2_readTaught 17 = .ok (.iadd, 1) := by decide +kernel
theorem dX2_readTaught_18 : decode cX2_readTaught 18 = .ok (.putfield 32, 3) := by decide +kernel
theorem dX2_readTaught_21 : decode cX2_readTaught 21 = .ok (.aload_n 0, 1) := by decide +kernel
theorem dX2_readTaught_22 : decode cX2_readTaught 22 = .ok (.invokevirtual 47, 3) := by decide +kernel
theorem dX2_readTaught_25 : decode cX2_readTaught 25 = .ok (.ireturn, 1) := by decide +kernel
theorem dX2_readNumber_0 : decode cX2_readNumber 0 = .ok (.aload_n 0, 1) := by decide +kernel
theorem dX2_readNumber_1 : decode cX2_readNumber 1 = .ok (.invokevirtual 50, 3) := by decide +kernel
theorem dX2_readNumber_4 : decode cX2_readNumber 4 = .ok (.istore_n 1, 1) := by decide +kernel
theorem dX2_readNumber_5 : decode cX2_readNumber 5 = .ok (.iload_n 1, 1) := by decide +kernel
theorem dX2_readNumber_6 : decode cX2_readNumber 6 = .ok (.iconst (-1), 1) := by decide +kernel
theorem dX2_readNumber_7 : decode cX2_readNumber 7 = .ok (.if_icmp .ne 5, 3) := by decide +kernel
theorem dX2_readNumber_10 : decode cX2_readNumber 10 = .ok (.iconst (-1), 1) := by decide +kernel
theorem dX2_readNumber_11 : decode cX2_readNumber 11 = .ok (.ireturn, 1) := by decide +kernel
theorem dX2_readNumber_12 : decode cX2_readNumber 12 = .ok (.aload_n 0, 1) := by decide +kernel
theorem dX2_readNumber_13 : decode cX2_readNumber 13 = .ok (.invokevirtual 50, 3) := by decide +kernel
theorem dX2_readNumber_16 : decode cX2_readNumber 16 = .ok (.istore_n 2, 1) := by decide +kernel
theorem dX2_readNumber_17 : decode cX2_readNumber 17 = .ok (.iload_n 2, 1) := by decide +kernel
theorem dX2_readNumber_18 : decode cX2_readNumber 18 = .ok (.iconst (-1), 1) := by decide +kernel
theorem dX2_readNumber_19 : decode cX2_readNumber 19 = .ok (.if_icmp .ne 7, 3) := by decide +kernel
theorem dX2_readNumber_22 : decode cX2_readNumber 22 = .ok (.iload_n 1, 1) := by decide +kernel
theorem dX2_readNumber_23 : decode cX2_readNumber 23 = .ok (.goto 9, 3) := by decide +kernel
theorem dX2_readNumber_26 : decode cX2_readNumber 26 = .ok (.iload_n 1, 1) := by decide +kernel
theorem dX2_readNumber_27 : decode cX2_readNumber 27 = .ok (.bipush 10, 2) := by decide +kernel
theorem dX2_readNumber_29 : decode cX2_readNumber 29 = .ok (.imul, 1) := by decide +kernel
theorem dX2_readNumber_30 : decode cX2_readNumber 30 = .ok (.iload_n 2, 1) := by decide +kernel
theorem dX2_readNumber_31 : decode cX2_readNumber 31 = .ok (.iadd, 1) := by decide +kernel
theorem dX2_readNumber_32 : decode cX2_readNumber 32 = .ok (.ireturn, 1) := by decide +kernel
theorem dX2_readDigit_0 : decode cX2_readDigit 0 = .ok (.aload_n 0, 1) := by decide +kernel
theorem dX2_readDigit_1 : decode cX2_readDigit 1 = .ok (.invokevirtual 39, 3) := by decide +kernel
theorem dX2_readDigit_4 : decode cX2_readDigit 4 = .ok (.istore_n 1, 1) := by decide +kernel
theorem dX2_readDigit_5 : decode cX2_readDigit 5 = .ok (.iload_n 1, 1) := by decide +kernel
theorem dX2_readDigit_6 : decode cX2_readDigit 6 = .ok (.bipush 48, 2) := by decide +kernel
theorem dX2_readDigit_8 : decode cX2_readDigit 8 = .ok (.if_icmp .lt 9, 3) := by decide +kernel
theorem dX2_readDigit_11 : decode cX2_readDigit 11 = .ok (.iload_n 1, 1) := by decide +kernel
theorem dX2_readDigit_12 : decode cX2_readDigit 12 = .ok (.bipush 57, 2) := by decide +kernel
theorem dX2_readDigit_14 : decode cX2_readDigit 14 = .ok (.if_icmp .le 5, 3) := by decide +kernel
theorem dX2_readDigit_17 : decode cX2_readDigit 17 = .ok (.iconst (-1), 1) := by decide +kernel
theorem dX2_readDigit_18 : decode cX2_readDigit 18 = .ok (.ireturn, 1) := by decide +kernel
theorem dX2_readDigit_19 : decode cX2_readDigit 19 = .ok (.aload_n 0, 1) := by decide +kernel
theorem dX2_readDigit_20 : decode cX2_readDigit 20 = .ok (.dup, 1) := by decide +kernel
theorem dX2_readDigit_21 : decode cX2_readDigit 21 = .ok (.getfield 32, 3) := by decide +kernel
theorem dX2_readDigit_24 : decode cX2_readDigit 24 = .ok (.iconst 1, 1) := by decide +kernel
theorem dX2_readDigit_25 : decode cX2_readDigit 25 = .ok (.iadd, 1) := by decide +kernel
theorem dX2_readDigit_26 : decode cX2_readDigit 26 = .ok (.putfield 32, 3) := by decide +kernel
theorem dX2_readDigit_29 : decode cX2_readDigit 29 = .ok (.iload_n 1, 1) := by decide +kernel
theorem dX2_readDigit_30 : decode cX2_readDigit 30 = .ok (.bipush 48, 2) := by decide +kernel
theorem dX2_readDigit_32 : decode cX2_readDigit 32 = .ok (.isub, 1) := by decide +kernel
theorem dX2_readDigit_33 : decode cX2_readDigit 33 = .ok (.ireturn, 1) := by decide +kernel
theorem dX3_init_0 : decode cX3_init 0 = .ok (.aload_n 0, 1) := by decide +kernel
theorem dX3_init_1 : decode cX3_init 1 = .ok (.invokespecial 3, 3) := by decide +kernel
theorem dX3_init_4 : decode cX3_init 4 = .ok (.aload_n 0, 1) := by decide +kernel
theorem dX3_init_5 : decode cX3_init 5 = .ok (.new 9, 3) := by decide +kernel
theorem dX3_init_8 : decode cX3_init 8 = .ok (.dup, 1) := by decide +kernel
theorem dX3_init_9 : decode cX3_init 9 = .ok (.invokespecial 11, 3) := by decide +kernel
theorem dX3_init_12 : decode cX3_init 12 = .ok (.putfield 12, 3) := by decide +kernel
theorem dX3_init_15 : decode cX3_init 15 = .ok (.aload_n 0, 1) := by decide +kernel
theorem dX3_init_16 : decode cX3_init 16 = .ok (.new 9, 3) := by decide +kernel
theorem dX3_init_19 : decode cX3_init 19 = .ok (.dup, 1) := by decide +kernel
theorem dX3_init_20 : decode cX3_init 20 = .ok (.invokespecial 11, 3) := by decide +kernel
theorem dX3_init_23 : decode cX3_init 23 = .ok (.putfield 16, 3) := by decide +kernel
theorem dX3_init_26 : decode cX3_init 26 = .ok (.aload_n 0, 1) := by decide +kernel
theorem dX3_init_27 : decode cX3_init 27 = .ok (.new 9, 3) := by decide +kernel
theorem dX3_init_30 : decode cX3_init 30 = .ok (.dup, 1) := by decide +kernel
theorem dX3_init_31 : decode cX3_init 31 = .ok (.invokespecial 11, 3) := by decide +kernel
theorem dX3_init_34 : decode cX3_init 34 = .ok (.putfield 19, 3) := by decide +kernel
theorem dX3_init_37 : decode cX3_init 37 = .ok (.aload_n 0, 1) := by decide +kernel
theorem dX3_init_38 : decode cX3_init 38 = .ok (.iconst 0, 1) := by decide +kernel
theorem dX3_init_39 : decode cX3_init 39 = .ok (.putfield 22, 3) := by decide +kernel
theorem dX3_init_42 : decode cX3_init 42 = .ok (.aload_n 0, 1) := by decide +kernel
theorem dX3_init_43 : decode cX3_init 43 = .ok (.bipush 8, 2) := by decide +kernel
theorem dX3_init_45 : decode cX3_init 45 = .ok (.anewarray 9, 3) := by decide +kernel
theorem dX3_init_48 : decode cX3_init 48 = .ok (.putfield 26, 3) := by decide +kernel
theorem dX3_init_51 : decode cX3_init 51 = .ok (.aload_n 0, 1) := by decide +kernel
theorem dX3_init_52 : decode cX3_init 52 = .ok (.iconst 0, 1) := by decide +kernel
theorem dX3_init_53 : decode cX3_init 53 = .ok (.putfield 30, 3) := by decide +kernel
theorem dX3_init_56 : decode cX3_init 56 = .ok (.aload_n 0, 1) := by decide +kernel
theorem dX3_init_57 : decode cX3_init 57 = .ok (.iconst 0, 1) := by decide +kernel
theorem dX3_init_58 : decode cX3_init 58 = .ok (.putfield 34, 3) := by decide +kernel
theorem dX3_init_61 : decode cX3_init 61 = .ok (.aload_n 0, 1) := by decide +kernel
theorem dX3_init_62 : decode cX3_init 62 = .ok (.new 37, 3) := by decide +kernel
theorem dX3_init_65 : decode cX3_init 65 = .ok (.dup, 1) := by decide +kernel
theorem dX3_init_66 : decode cX3_init 66 = .ok (.invokespecial 39, 3) := by decide +kernel
theorem dX3_init_69 : decode cX3_init 69 = .ok (.putfield 40, 3) := by decide +kernel
theorem dX3_init_72 : decode cX3_init 72 = .ok (.aload_n 0, 1) := by decide +kernel
theorem dX3_init_73 : decode cX3_init 73 = .ok (.new 44, 3) := by decide +kernel
theorem dX3_init_76 : decode cX3_init 76 = .ok (.dup, 1) := by decide +kernel
theorem dX3_init_77 : decode cX3_init 77 = .ok (.invokespecial 46, 3) := by decide +kernel
theorem dX3_init_80 : decode cX3_init 80 = .ok (.putfield 47, 3) := by decide +kernel
theorem dX3_init_83 : decode cX3_init 83 = .ok (.aload_n 0, 1) := by decide +kernel
theorem dX3_init_84 : decode cX3_init 84 = .ok (.new 51, 3) := by decide +kernel
theorem dX3_init_87 : decode cX3_init 87 = .ok (.dup, 1) := by decide +kernel
theorem dX3_init_88 : decode cX3_init 88 = .ok (.invokespecial 53, 3) := by decide +kernel
theorem dX3_init_91 : decode cX3_init 91 = .ok (.putfield 54, 3) := by decide +kernel
theorem dX3_init_94 : decode cX3_init 94 = .ok (.aload_n 0, 1) := by decide +kernel
theorem dX3_init_95 : decode cX3_init 95 = .ok (.iconst (-1), 1) := by decide +kernel
theorem dX3_init_96 : decode cX3_init 96 = .ok (.putfield 58, 3) := by decide +kernel
theorem dX3_init_99 : decode cX3_init 99 = .ok (.aload_n 0, 1) := by decide +kernel
theorem dX3_init_100 : decode cX3_init 100 = .ok (.iconst 0, 1) := by decide +kernel
theorem dX3_init_101 : decode cX3_init 101 = .ok (.putfield 61, 3) := by decide +kernel
theorem dX3_init_104 : decode cX3_init 104 = .ok (.aload_n 0, 1) := by decide +kernel
theorem dX3_init_105 : decode cX3_init 105 = .ok (.iconst 0, 1) := by decide +kernel
theorem dX3_init_106 : decode cX3_init 106 = .ok (.putfield 64, 3) := by decide +kernel
theorem dX3_init_109 : decode cX3_init 109 = .ok (.iconst 0, 1) := by decide +kernel
theorem dX3_init_110 : decode cX3_init 110 = .ok (.istore_n 1, 1) := by decide +kernel
theorem dX3_init_111 : decode cX3_init 111 = .ok (.iload_n 1, 1) := by decide +kernel
theorem dX3_init_112 : decode cX3_init 112 = .ok (.bipush 8, 2) := by decide +kernel
theorem dX3_init_114 : decode cX3_init 114 = .ok (.if_icmp .ge 22, 3) := by decide +kernel
theorem dX3_init_117 : decode cX3_init 117 = .ok (.aload_n 0, 1) := by decide +kernel
theorem dX3_init_118 : decode cX3_init 118 = .ok (.getfield 26, 3) := by decide +kernel
theorem dX3_init_121 : decode cX3_init 121 = .ok (.iload_n 1, 1) := by decide +kernel
theorem dX3_init_122 : decode cX3_init 122 = .ok (.new 9, 3) := by decide +kernel
theorem dX3_init_125 : decode cX3_init 125 = .ok (.dup, 1) := by decide +kernel
theorem dX3_init_126 : decode cX3_init 126 = .ok (.invokespecial 11, 3) := by decide +kernel
theorem dX3_init_129 : decode cX3_init 129 = .ok (.aastore, 1) := by decide +kernel
theorem dX3_init_130 : decode cX3_init 130 = .ok (.iinc 1 1, 3) := by decide +kernel
theorem dX3_init_133 : decode cX3_init 133 = .ok (.goto (-22), 3) := by decide +kernel
theorem dX3_init_136 : decode cX3_init 136 = .ok (.return_, 1) := by decide +kernel
theorem dX3_guard_0 : decode cX3_guard 0 = .ok (.iload_n 1, 1) := by decide +kernel
theorem dX3_guard_1 : decode cX3_guard 1 = .ok (.invokestatic 67, 3) := by decide +kernel
theorem dX3_guard_4 : decode cX3_guard 4 = .ok (.aload_n 0, 1) := by decide +kernel
theorem dX3_guard_5 : decode cX3_guard 5 = .ok (.invokevirtual 71, 3) := by decide +kernel
theorem dX3_guard_8 : decode cX3_guard 8 = .ok (.ifCond .eq 13, 3) := by decide +kernel
theorem dX3_guard_11 : decode cX3_guard 11 = .ok (.new 75, 3) := by decide +kernel
theorem dX3_guard_14 : decode cX3_guard 14 = .ok (.dup, 1) := by decide +kernel
theorem dX3_guard_15 : decode cX3_guard 15 = .ok (.ldc 77, 2) := by decide +kernel
theorem dX3_guard_17 : decode cX3_guard 17 = .ok (.invokespecial 79, 3) := by decide +kernel
theorem dX3_guard_20 : decode cX3_guard 20 = .ok (.athrow, 1) := by decide +kernel
theorem dX3_guard_21 : decode cX3_guard 21 = .ok (.aload_n 0, 1) := by decide +kernel
theorem dX3_guard_22 : decode cX3_guard 22 = .ok (.aload_n 0, 1) := by decide +kernel
theorem dX3_guard_23 : decode cX3_guard 23 = .ok (.getfield 12, 3) := by decide +kernel
theorem dX3_guard_26 : decode cX3_guard 26 = .ok (.invokevirtual 82, 3) := by decide +kernel
theorem dX3_guard_29 : decode cX3_guard 29 = .ok (.aload_n 0, 1) := by decide +kernel
theorem dX3_guard_30 : decode cX3_guard 30 = .ok (.getfield 12, 3) := by decide +kernel
theorem dX3_guard_33 : decode cX3_guard 33 = .ok (.iload_n 1, 1) := by decide +kernel
theorem dX3_guard_34 : decode cX3_guard 34 = .ok (.invokevirtual 86, 3) := by decide +kernel
theorem dX3_guard_37 : decode cX3_guard 37 = .ok (.ireturn, 1) := by decide +kernel
theorem dX3_rate_0 : decode cX3_rate 0 = .ok (.aload_n 0, 1) := by decide +kernel
theorem dX3_rate_1 : decode cX3_rate 1 = .ok (.iload_n 1, 1) := by decide +kernel
theorem dX3_rate_2 : decode cX3_rate 2 = .ok (.invokevirtual 90, 3) := by decide +kernel
theorem dX3_rate_5 : decode cX3_rate 5 = .ok (.iload_n 2, 1) := by decide +kernel
theorem dX3_rate_6 : decode cX3_rate 6 = .ok (.invokestatic 67, 3) := by decide +kernel
theorem dX3_rate_9 : decode cX3_rate 9 = .ok (.aload_n 0, 1) := by decide +kernel
theorem dX3_rate_10 : decode cX3_rate 10 = .ok (.getfield 12, 3) := by decide +kernel
theorem dX3_rate_13 : decode cX3_rate 13 = .ok (.getfield 93, 3) := by decide +kernel
theorem dX3_rate_16 : decode cX3_rate 16 = .ok (.iload_n 1, 1) := by decide +kernel
theorem dX3_rate_17 : decode cX3_rate 17 = .ok (.aaload, 1) := by decide +kernel
theorem dX3_rate_18 : decode cX3_rate 18 = .ok (.getfield 97, 3) := by decide +kernel
theorem dX3_rate_21 : decode cX3_rate 21 = .ok (.istore_n 3, 1) := by decide +kernel
theorem dX3_rate_22 : decode cX3_rate 22 = .ok (.iload_n 3, 1) := by decide +kernel
theorem dX3_rate_23 : decode cX3_rate 23 = .ok (.iload_n 2, 1) := by decide +kernel
theorem dX3_rate_24 : decode cX3_rate 24 = .ok (.if_icmp .ne 19, 3) := by decide +kernel
theorem dX3_rate_27 : decode cX3_rate 27 = .ok (.aload_n 0, 1) := by decide +kernel
theorem dX3_rate_28 : decode cX3_rate 28 = .ok (.iconst 4, 1) := by decide +kernel
theorem dX3_rate_29 : decode cX3_rate 29 = .ok (.iload_n 2, 1) := by decide +kernel
theorem dX3_rate_30 : decode cX3_rate 30 = .ok (.invokevirtual 100, 3) := by decide +kernel
theorem dX3_rate_33 : decode cX3_rate 33 = .ok (.new 75, 3) := by decide +kernel
theorem dX3_rate_36 : decode cX3_rate 36 = .ok (.dup, 1) := by decide +kernel
theorem dX3_rate_37 : decode cX3_rate 37 = .ok (.ldc 104, 2) := by decide +kernel
theorem dX3_rate_39 : decode cX3_rate 39 = .ok (.invokespecial 79, 3) := by decide +kernel
theorem dX3_rate_42 : decode cX3_rate 42 = .ok (.athrow, 1) := by decide +kernel
theorem dX3_rate_43 : decode cX3_rate 43 = .ok (.aload_n 0, 1) := by decide +kernel
theorem dX3_rate_44 : decode cX3_rate 44 = .ok (.aload_n 0, 1) := by decide +kernel
theorem dX3_rate_45 : decode cX3_rate 45 = .ok (.getfield 12, 3) := by decide +kernel
theorem dX3_rate_48 : decode cX3_rate 48 = .ok (.invokevirtual 82, 3) := by decide +kernel
theorem dX3_rate_51 : decode cX3_rate 51 = .ok (.aload_n 0, 1) := by decide +kernel
theorem dX3_rate_52 : decode cX3_rate 52 = .ok (.getfield 12, 3) := by decide +kernel
theorem dX3_rate_55 : decode cX3_rate 55 = .ok (.getfield 93, 3) := by decide +kernel
theorem dX3_rate_58 : decode cX3_rate 58 = .ok (.iload_n 1, 1) := by decide +kernel
theorem dX3_rate_59 : decode cX3_rate 59 = .ok (.aaload, 1) := by decide +kernel
theorem dX3_rate_60 : decode cX3_rate 60 = .ok (.iload_n 2, 1) := by decide +kernel
theorem dX3_rate_61 : decode cX3_rate 61 = .ok (.putfield 97, 3) := by decide +kernel
theorem dX3_rate_64 : decode cX3_rate 64 = .ok (.iload_n 3, 1) := by decide +kernel
theorem dX3_rate_65 : decode cX3_rate 65 = .ok (.ireturn, 1) := by decide +kernel
theorem dX3_caution_0 : decode cX3_caution 0 = .ok (.aload_n 0, 1) := by decide +kernel
theorem dX3_caution_1 : decode cX3_caution 1 = .ok (.iload_n 1, 1) := by decide +kernel
theorem dX3_caution_2 : decode cX3_caution 2 = .ok (.invokevirtual 90, 3) := by decide +kernel
theorem dX3_caution_5 : decode cX3_caution 5 = .ok (.iload_n 2, 1) := by decide +kernel
theorem dX3_caution_6 : decode cX3_caution 6 = .ok (.ifCond .lt 10, 3) := by decide +kernel
theorem dX3_caution_9 : decode cX3_caution 9 = .ok (.iload_n 2, 1) := by decide +kernel
theorem dX3_caution_10 : decode cX3_caution 10 = .ok (.sipush 256, 3) := by decide +kernel
theorem dX3_caution_13 : decode cX3_caution 13 = .ok (.if_icmp .le 13, 3) := by decide +kernel
theorem dX3_caution_16 : decode cX3_caution 16 = .ok (.new 106, 3) := by decide +kernel
theorem dX3_caution_19 : decode cX3_caution 19 = .ok (.dup, 1) := by decide +kernel
theorem dX3_caution_20 : decode cX3_caution 20 = .ok (.ldc 108, 2) := by decide +kernel
theorem dX3_caution_22 : decode cX3_caution 22 = .ok (.invokespecial 110, 3) := by decide +kernel
theorem dX3_caution_25 : decode cX3_caution 25 = .ok (.athrow, 1) := by decide +kernel
theorem dX3_caution_26 : decode cX3_caution 26 = .ok (.aload_n 0, 1) := by decide +kernel
theorem dX3_caution_27 : decode cX3_caution 27 = .ok (.getfield 12, 3) := by decide +kernel
theorem dX3_caution_30 : decode cX3_caution 30 = .ok (.getfield 93, 3) := by decide +kernel
theorem dX3_caution_33 : decode cX3_caution 33 = .ok (.iload_n 1, 1) := by decide +kernel
theorem dX3_caution_34 : decode cX3_caution 34 = .ok (.aaload, 1) := by decide +kernel
theorem dX3_caution_35 : decode cX3_caution 35 = .ok (.getfield 111, 3) := by decide +kernel
theorem dX3_caution_38 : decode cX3_caution 38 = .ok (.istore_n 3, 1) := by decide +kernel
theorem dX3_caution_39 : decode cX3_caution 39 = .ok (.iload_n 3, 1) := by decide +kernel
theorem dX3_caution_40 : decode cX3_caution 40 = .ok (.iload_n 2, 1) := by decide +kernel
theorem dX3_caution_41 : decode cX3_caution 41 = .ok (.if_icmp .ne 19, 3) := by decide +kernel
theorem dX3_caution_44 : decode cX3_caution 44 = .ok (.aload_n 0, 1) := by decide +kernel
theorem dX3_caution_45 : decode cX3_caution 45 = .ok (.iconst 4, 1) := by decide +kernel
theorem dX3_caution_46 : decode cX3_caution 46 = .ok (.iload_n 2, 1) := by decide +kernel
theorem dX3_caution_47 : decode cX3_caution 47 = .ok (.invokevirtual 100, 3) := by decide +kernel
theorem dX3_caution_50 : decode cX3_caution 50 = .ok (.new 75, 3) := by decide +kernel
theorem dX3_caution_53 : decode cX3_caution 53 = .ok (.dup, 1) := by decide +kernel
theorem dX3_caution_54 : decode cX3_caution 54 = .ok (.ldc 114, 2) := by decide +kernel
theorem dX3_caution_56 : decode cX3_caution 56 = .ok (.invokespecial 79, 3) := by decide +kernel
theorem dX3_caution_59 : decode cX3_caution 59 = .ok (.athrow, 1) := by decide +kernel
theorem dX3_caution_60 : decode cX3_caution 60 = .ok (.aload_n 0, 1) := by decide +kernel
theorem dX3_caution_61 : decode cX3_caution 61 = .ok (.aload_n 0, 1) := by decide +kernel
theorem dX3_caution_62 : decode cX3_caution 62 = .ok (.getfield 12, 3) := by decide +kernel
theorem dX3_caution_65 : decode cX3_caution 65 = .ok (.invokevirtual 82, 3) := by decide +kernel
theorem dX3_caution_68 : decode cX3_caution 68 = .ok (.aload_n 0, 1) := by decide +kernel
theorem dX3_caution_69 : decode cX3_caution 69 = .ok (.getfield 12, 3) := by decide +kernel
theorem dX3_caution_72 : decode cX3_caution 72 = .ok (.getfield 93, 3) := by decide +kernel
theorem dX3_caution_75 : decode cX3_caution 75 = .ok (.iload_n 1, 1) := by decide +kernel
theorem dX3_caution_76 : decode cX3_caution 76 = .ok (.aaload, 1) := by decide +kernel
theorem dX3_caution_77 : decode cX3_caution 77 = .ok (.iload_n 2, 1) := by decide +kernel
theorem dX3_caution_78 : decode cX3_caution 78 = .ok (.putfield 111, 3) := by decide +kernel
theorem dX3_caution_81 : decode cX3_caution 81 = .ok (.iload_n 3, 1) := by decide +kernel
theorem dX3_caution_82 : decode cX3_caution 82 = .ok (.ireturn, 1) := by decide +kernel
theorem dX3_visitor_0 : decode cX3_visitor 0 = .ok (.iload_n 1, 1) := by decide +kernel
theorem dX3_visitor_1 : decode cX3_visitor 1 = .ok (.invokestatic 116, 3) := by decide +kernel
theorem dX3_visitor_4 : decode cX3_visitor 4 = .ok (.aload_n 0, 1) := by decide +kernel
theorem dX3_visitor_5 : decode cX3_visitor 5 = .ok (.iload_n 1, 1) := by decide +kernel
theorem dX3_visitor_6 : decode cX3_visitor 6 = .ok (.invokevirtual 119, 3) := by decide +kernel
theorem dX3_visitor_9 : decode cX3_visitor 9 = .ok (.ifCond .eq 13, 3) := by decide +kernel
theorem dX3_visitor_12 : decode cX3_visitor 12 = .ok (.new 75, 3) := by decide +kernel
theorem dX3_visitor_15 : decode cX3_visitor 15 = .ok (.dup, 1) := by decide +kernel
theorem dX3_visitor_16 : decode cX3_visitor 16 = .ok (.ldc 123, 2) := by decide +kernel
theorem dX3_visitor_18 : decode cX3_visitor 18 = .ok (.invokespecial 79, 3) := by decide +kernel
theorem dX3_visitor_21 : decode cX3_visitor 21 = .ok (.athrow, 1) := by decide +kernel
theorem dX3_visitor_22 : decode cX3_visitor 22 = .ok (.aload_n 0, 1) := by decide +kernel
theorem dX3_visitor_23 : decode cX3_visitor 23 = .ok (.aload_n 0, 1) := by decide +kernel
theorem dX3_visitor_24 : decode cX3_visitor 24 = .ok (.getfield 12, 3) := by decide +kernel
theorem dX3_visitor_27 : decode cX3_visitor 27 = .ok (.invokevirtual 82, 3) := by decide +kernel
theorem dX3_visitor_30 : decode cX3_visitor 30 = .ok (.aload_n 0, 1) := by decide +kernel
theorem dX3_visitor_31 : decode cX3_visitor 31 = .ok (.getfield 12, 3) := by decide +kernel
theorem dX3_visitor_34 : decode cX3_visitor 34 = .ok (.iload_n 1, 1) := by decide +kernel
theorem dX3_visitor_35 : decode cX3_visitor 35 = .ok (.iload_n 2, 1) := by decide +kernel
theorem dX3_visitor_36 : decode cX3_visitor 36 = .ok (.invokevirtual 125, 3) := by decide +kernel
theorem dX3_visitor_39 : decode cX3_visitor 39 = .ok (.ireturn, 1) := by decide +kernel
theorem dX3_forget_0 : decode cX3_forget 0 = .ok (.aload_n 0, 1) := by decide +kernel
theorem dX3_forget_1 : decode cX3_forget 1 = .ok (.iload_n 1, 1) := by decide +kernel
theorem dX3_forget_2 : decode cX3_forget 2 = .ok (.invokevirtual 129, 3) := by decide +kernel
theorem dX3_forget_5 : decode cX3_forget 5 = .ok (.aload_n 0, 1) := by decide +kernel
theorem dX3_forget_6 : decode cX3_forget 6 = .ok (.aload_n 0, 1) := by decide +kernel
theorem dX3_forget_7 : decode cX3_forget 7 = .ok (.getfield 12, 3) := by decide +kernel
theorem dX3_forget_10 : decode cX3_forget 10 = .ok (.invokevirtual 82, 3) := by decide +kernel
theorem dX3_forget_13 : decode cX3_forget 13 = .ok (.aload_n 0, 1) := by decide +kernel
theorem dX3_forget_14 : decode cX3_forget 14 = .ok (.getfield 12, 3) := by decide +kernel
theorem dX3_forget_17 : decode cX3_forget 17 = .ok (.iload_n 1, 1) := by decide +kernel
theorem dX3_forget_18 : decode cX3_forget 18 = .ok (.invokevirtual 132, 3) := by decide +kernel
theorem dX3_forget_21 : decode cX3_forget 21 = .ok (.ireturn, 1) := by decide +kernel
theorem dX3_visitorOf_0 : decode cX3_visitorOf 0 = .ok (.aload_n 0, 1) := by decide +kernel
theorem dX3_visitorOf_1 : decode cX3_visitorOf 1 = .ok (.iload_n 1, 1) := by decide +kernel
theorem dX3_visitorOf_2 : decode cX3_visitorOf 2 = .ok (.invokevirtual 129, 3) := by decide +kernel
theorem dX3_visitorOf_5 : decode cX3_visitorOf 5 = .ok (.iload_n 2, 1) := by decide +kernel
theorem dX3_visitorOf_6 : decode cX3_visitorOf 6 = .ok (.tableswitch 93 0 4 #[34, 44, 62, 75, 84], 34) := by decide +kernel
theorem dX3_visitorOf_40 : decode cX3_visitorOf 40 = .ok (.aload_n 0, 1) := by decide +kernel
theorem dX3_visitorOf_41 : decode cX3_visitorOf 41 = .ok (.getfield 12, 3) := by decide +kernel
theorem dX3_visitorOf_44 : decode cX3_visitorOf 44 = .ok (.getfield 135, 3) := by decide +kernel
theorem dX3_visitorOf_47 : decode cX3_visitorOf 47 = .ok (.iload_n 1, 1) := by decide +kernel
theorem dX3_visitorOf_48 : decode cX3_visitorOf 48 = .ok (.iaload, 1) := by decide +kernel
theorem dX3_visitorOf_49 : decode cX3_visitorOf 49 = .ok (.ireturn, 1) := by decide +kernel
theorem dX3_visitorOf_50 : decode cX3_visitorOf 50 = .ok (.aload_n 0, 1) := by decide +kernel
theorem dX3_visitorOf_51 : decode cX3_visitorOf 51 = .ok (.getfield 12, 3) := by decide +kernel
theorem dX3_visitorOf_54 : decode cX3_visitorOf 54 = .ok (.getfield 139, 3) := by decide +kernel
theorem dX3_visitorOf_57 : decode cX3_visitorOf 57 = .ok (.iload_n 1, 1) := by decide +kernel
theorem dX3_visitorOf_58 : decode cX3_visitorOf 58 = .ok (.baload, 1) := by decide +kernel
theorem dX3_visitorOf_59 : decode cX3_visitorOf 59 = .ok (.ifCond .eq 7, 3) := by decide +kernel
theorem dX3_visitorOf_62 : decode cX3_visitorOf 62 = .ok (.iconst 1, 1) := by decide +kernel
theorem dX3_visitorOf_63 : decode cX3_visitorOf 63 = .ok (.goto 4, 3) := by decide +kernel
theorem dX3_visitorOf_66 : decode cX3_visitorOf 66 = .ok (.iconst 0, 1) := by decide +kernel
theorem dX3_visitorOf_67 : decode cX3_visitorOf 67 = .ok (.ireturn, 1) := by decide +kernel
theorem dX3_visitorOf_68 : decode cX3_visitorOf 68 = .ok (.aload_n 0, 1) := by decide +kernel
theorem dX3_visitorOf_69 : decode cX3_visitorOf 69 = .ok (.getfield 12, 3) := by decide +kernel
theorem dX3_visitorOf_72 : decode cX3_visitorOf 72 = .ok (.getfield 135, 3) := by decide +kernel
theorem dX3_visitorOf_75 : decode cX3_visitorOf 75 = .ok (.iload_n 1, 1) := by decide +kernel
theorem dX3_visitorOf_76 : decode cX3_visitorOf 76 = .ok (.iaload, 1) := by decide +kernel
theorem dX3_visitorOf_77 : decode cX3_visitorOf 77 = .ok (.invokestatic 143, 3) := by decide +kernel
theorem dX3_visitorOf_80 : decode cX3_visitorOf 80 = .ok (.ireturn, 1) := by decide +kernel
theorem dX3_visitorOf_81 : decode cX3_visitorOf 81 = .ok (.aload_n 0, 1) := by decide +kernel
theorem dX3_visitorOf_82 : decode cX3_visitorOf 82 = .ok (.getfield 12, 3) := by decide +kernel
theorem dX3_visitorOf_85 : decode cX3_visitorOf 85 = .ok (.iload_n 1, 1) := by decide +kernel
theorem dX3_visitorOf_86 : decode cX3_visitorOf 86 = .ok (.invokevirtual 148, 3) := by decide +kernel
theorem dX3_visitorOf_89 : decode cX3_visitorOf 89 = .ok (.ireturn, 1) := by decide +kernel
theorem dX3_visitorOf_90 : decode cX3_visitorOf 90 = .ok (.aload_n 0, 1) := by decide +kernel
theorem dX3_visitorOf_91 : decode cX3_visitorOf 91 = .ok (.getfield 12, 3) := by decide +kernel
theorem dX3_visitorOf_94 : decode cX3_visitorOf 94 = .ok (.iload_n 1, 1) := by decide +kernel
theorem dX3_visitorOf_95 : decode cX3_visitorOf 95 = .ok (.invokevirtual 151, 3) := by decide +kernel
theorem dX3_visitorOf_98 : decode cX3_visitorOf 98 = .ok (.ireturn, 1) := by decide +kernel
theorem dX3_visitorOf_99 : decode cX3_visitorOf 99 = .ok (.new 106, 3) := by decide +kernel
theorem dX3_visitorOf_102 : decode cX3_visitorOf 102 = .ok (.dup, 1) := by decide +kernel
theorem dX3_visitorOf_103 : decode cX3_visitorOf 103 = .ok (.ldc 154, 2) := by decide +kernel
theorem dX3_visitorOf_105 : decode cX3_visitorOf 105 = .ok (.invokespecial 110, 3) := by decide +kernel
theorem dX3_visitorOf_108 : decode cX3_visitorOf 108 = .ok (.athrow, 1) := by decide +kernel
theorem dX3_guardOf_0 : decode cX3_guardOf 0 = .ok (.aload_n 0, 1) := by decide +kernel
theorem dX3_guardOf_1 : decode cX3_guardOf 1 = .ok (.iload_n 1, 1) := by decide +kernel
theorem dX3_guardOf_2 : decode cX3_guardOf 2 = .ok (.invokevirtual 90, 3) := by decide +kernel
theorem dX3_guardOf_5 : decode cX3_guardOf 5 = .ok (.aload_n 0, 1) := by decide +kernel
theorem dX3_guardOf_6 : decode cX3_guardOf 6 = .ok (.getfield 12, 3) := by decide +kernel
theorem dX3_guardOf_9 : decode cX3_guardOf 9 = .ok (.getfield 93, 3) := by decide +kernel
theorem dX3_guardOf_12 : decode cX3_guardOf 12 = .ok (.iload_n 1, 1) := by decide +kernel
theorem dX3_guardOf_13 : decode cX3_guardOf 13 = .ok (.aaload, 1) := by decide +kernel
theorem dX3_guardOf_14 : decode cX3_guardOf 14 = .ok (.astore_n 3, 1) := by decide +kernel
theorem dX3_guardOf_15 : decode cX3_guardOf 15 = .ok (.iload_n 2, 1) := by decide +kernel
theorem dX3_guardOf_16 : decode cX3_guardOf 16 = .ok (.tableswitch 83 0 6 #[44, 49, 54, 59, 64, 73, 78], 44) := by decide +kernel
theorem dX3_guardOf_60 : decode cX3_guardOf 60 = .ok (.aload_n 3, 1) := by decide +kernel
theorem dX3_guardOf_61 : decode cX3_guardOf 61 = .ok (.getfield 97, 3) := by decide +kernel
theorem dX3_guardOf_64 : decode cX3_guardOf 64 = .ok (.ireturn, 1) := by decide +kernel
theorem dX3_guardOf_65 : decode cX3_guardOf 65 = .ok (.aload_n 3, 1) := by decide +kernel
theorem dX3_guardOf_66 : decode cX3_guardOf 66 = .ok (.getfield 111, 3) := by decide +kernel
theorem dX3_guardOf_69 : decode cX3_guardOf 69 = .ok (.ireturn, 1) := by decide +kernel
theorem dX3_guardOf_70 : decode cX3_guardOf 70 = .ok (.aload_n 3, 1) := by decide +kernel
theorem dX3_guardOf_71 : decode cX3_guardOf 71 = .ok (.getfield 156, 3) := by decide +kernel
theorem dX3_guardOf_74 : decode cX3_guardOf 74 = .ok (.ireturn, 1) := by decide +kernel
theorem dX3_guardOf_75 : decode cX3_guardOf 75 = .ok (.aload_n 3, 1) := by decide +kernel
theorem dX3_guardOf_76 : decode cX3_guardOf 76 = .ok (.getfield 159, 3) := by decide +kernel
theorem dX3_guardOf_79 : decode cX3_guardOf 79 = .ok (.ireturn, 1) := by decide +kernel
theorem dX3_guardOf_80 : decode cX3_guardOf 80 = .ok (.aload_n 0, 1) := by decide +kernel
theorem dX3_guardOf_81 : decode cX3_guardOf 81 = .ok (.getfield 12, 3) := by decide +kernel
theorem dX3_guardOf_84 : decode cX3_guardOf 84 = .ok (.iload_n 1, 1) := by decide +kernel
theorem dX3_guardOf_85 : decode cX3_guardOf 85 = .ok (.invokevirtual 162, 3) := by decide +kernel
theorem dX3_guardOf_88 : decode cX3_guardOf 88 = .ok (.ireturn, 1) := by decide +kernel
theorem dX3_guardOf_89 : decode cX3_guardOf 89 = .ok (.aload_n 3, 1) := by decide +kernel
theorem dX3_guardOf_90 : decode cX3_guardOf 90 = .ok (.getfield 165, 3) := by decide +kernel
theorem dX3_guardOf_93 : decode cX3_guardOf 93 = .ok (.ireturn, 1) := by decide +kernel
theorem dX3_guardOf_94 : decode cX3_guardOf 94 = .ok (.aload_n 3, 1) := by decide +kernel
theorem dX3_guardOf_95 : decode cX3_guardOf 95 = .ok (.getfield 168, 3) := by decide +kernel
theorem dX3_guardOf_98 : decode cX3_guardOf 98 = .ok (.ireturn, 1) := by decide +kernel
theorem dX3_guardOf_99 : decode cX3_guardOf 99 = .ok (.new 106, 3) := by decide +kernel
theorem dX3_guardOf_102 : decode cX3_guardOf 102 = .ok (.dup, 1) := by decide +kernel
theorem dX3_guardOf_103 : decode cX3_guardOf 103 = .ok (.ldc 171, 2) := by decide +kernel
theorem dX3_guardOf_105 : decode cX3_guardOf 105 = .ok (.invokespecial 110, 3) := by decide +kernel
theorem dX3_guardOf_108 : decode cX3_guardOf 108 = .ok (.athrow, 1) := by decide +kernel
theorem dX3_margin_0 : decode cX3_margin 0 = .ok (.aload_n 0, 1) := by decide +kernel
theorem dX3_margin_1 : decode cX3_margin 1 = .ok (.iload_n 1, 1) := by decide +kernel
theorem dX3_margin_2 : decode cX3_margin 2 = .ok (.invokevirtual 90, 3) := by decide +kernel
theorem dX3_margin_5 : decode cX3_margin 5 = .ok (.iload_n 2, 1) := by decide +kernel
theorem dX3_margin_6 : decode cX3_margin 6 = .ok (.invokestatic 116, 3) := by decide +kernel
theorem dX3_margin_9 : decode cX3_margin 9 = .ok (.iload_n 3, 1) := by decide +kernel
theorem dX3_margin_10 : decode cX3_margin 10 = .ok (.ifCond .eq 19, 3) := by decide +kernel
theorem dX3_margin_13 : decode cX3_margin 13 = .ok (.aload_n 0, 1) := by decide +kernel
theorem dX3_margin_14 : decode cX3_margin 14 = .ok (.getfield 12, 3) := by decide +kernel
theorem dX3_margin_17 : decode cX3_margin 17 = .ok (.getfield 93, 3) := by decide +kernel
theorem dX3_margin_20 : decode cX3_margin 20 = .ok (.iload_n 1, 1) := by decide +kernel
theorem dX3_margin_21 : decode cX3_margin 21 = .ok (.aaload, 1) := by decide +kernel
theorem dX3_margin_22 : decode cX3_margin 22 = .ok (.iload_n 2, 1) := by decide +kernel
theorem dX3_margin_23 : decode cX3_margin 23 = .ok (.invokevirtual 173, 3) := by decide +kernel
theorem dX3_margin_26 : decode cX3_margin 26 = .ok (.goto 16, 3) := by decide +kernel
theorem dX3_margin_29 : decode cX3_margin 29 = .ok (.aload_n 0, 1) := by decide +kernel
theorem dX3_margin_30 : decode cX3_margin 30 = .ok (.getfield 12, 3) := by decide +kernel
theorem dX3_margin_33 : decode cX3_margin 33 = .ok (.getfield 93, 3) := by decide +kernel
theorem dX3_margin_36 : decode cX3_margin 36 = .ok (.iload_n 1, 1) := by decide +kernel
theorem dX3_margin_37 : decode cX3_margin 37 = .ok (.aaload, 1) := by decide +kernel
theorem dX3_margin_38 : decode cX3_margin 38 = .ok (.iload_n 2, 1) := by decide +kernel
theorem dX3_margin_39 : decode cX3_margin 39 = .ok (.invokevirtual 177, 3) := by decide +kernel
theorem dX3_margin_42 : decode cX3_margin 42 = .ok (.freturn, 1) := by decide +kernel
theorem dX3_letsIn_0 : decode cX3_letsIn 0 = .ok (.aload_n 0, 1) := by decide +kernel
theorem dX3_letsIn_1 : decode cX3_letsIn 1 = .ok (.iload_n 1, 1) := by decide +kernel
theorem dX3_letsIn_2 : decode cX3_letsIn 2 = .ok (.invokevirtual 90, 3) := by decide +kernel
theorem dX3_letsIn_5 : decode cX3_letsIn 5 = .ok (.iload_n 2, 1) := by decide +kernel
theorem dX3_letsIn_6 : decode cX3_letsIn 6 = .ok (.invokestatic 116, 3) := by decide +kernel
theorem dX3_letsIn_9 : decode cX3_letsIn 9 = .ok (.aload_n 0, 1) := by decide +kernel
theorem dX3_letsIn_10 : decode cX3_letsIn 10 = .ok (.getfield 12, 3) := by decide +kernel
theorem dX3_letsIn_13 : decode cX3_letsIn 13 = .ok (.getfield 93, 3) := by decide +kernel
theorem dX3_letsIn_16 : decode cX3_letsIn 16 = .ok (.iload_n 1, 1) := by decide +kernel
theorem dX3_letsIn_17 : decode cX3_letsIn 17 = .ok (.aaload, 1) := by decide +kernel
theorem dX3_letsIn_18 : decode cX3_letsIn 18 = .ok (.iload_n 2, 1) := by decide +kernel
theorem dX3_letsIn_19 : decode cX3_letsIn 19 = .ok (.invokevirtual 180, 3) := by decide +kernel
theorem dX3_letsIn_22 : decode cX3_letsIn 22 = .ok (.ireturn, 1) := by decide +kernel
theorem dX3_weightBits_0 : decode cX3_weightBits 0 = .ok (.aload_n 0, 1) := by decide +kernel
theorem dX3_weightBits_1 : decode cX3_weightBits 1 = .ok (.iload_n 1, 1) := by decide +kernel
theorem dX3_weightBits_2 : decode cX3_weightBits 2 = .ok (.invokevirtual 90, 3) := by decide +kernel
theorem dX3_weightBits_5 : decode cX3_weightBits 5 = .ok (.iload_n 2, 1) := by decide +kernel
theorem dX3_weightBits_6 : decode cX3_weightBits 6 = .ok (.iconst (-1), 1) := by decide +kernel
theorem dX3_weightBits_7 : decode cX3_weightBits 7 = .ok (.invokestatic 183, 3) := by decide +kernel
theorem dX3_weightBits_10 : decode cX3_weightBits 10 = .ok (.aload_n 0, 1) := by decide +kernel
theorem dX3_weightBits_11 : decode cX3_weightBits 11 = .ok (.getfield 12, 3) := by decide +kernel
theorem dX3_weightBits_14 : decode cX3_weightBits 14 = .ok (.getfield 93, 3) := by decide +kernel
theorem dX3_weightBits_17 : decode cX3_weightBits 17 = .ok (.iload_n 1, 1) := by decide +kernel
theorem dX3_weightBits_18 : decode cX3_weightBits 18 = .ok (.aaload, 1) := by decide +kernel
theorem dX3_weightBits_19 : decode cX3_weightBits 19 = .ok (.getfield 186, 3) := by decide +kernel
theorem dX3_weightBits_22 : decode cX3_weightBits 22 = .ok (.iload_n 2, 1) := by decide +kernel
theorem dX3_weightBits_23 : decode cX3_weightBits 23 = .ok (.iconst 1, 1) := by decide +kernel
theorem dX3_weightBits_24 : decode cX3_weightBits 24 = .ok (.iadd, 1) := by decide +kernel
theorem dX3_weightBits_25 : decode cX3_weightBits 25 = .ok (.faload, 1) := by decide +kernel
theorem dX3_weightBits_26 : decode cX3_weightBits 26 = .ok (.invokestatic 190, 3) := by decide +kernel
theorem dX3_weightBits_29 : decode cX3_weightBits 29 = .ok (.ireturn, 1) := by decide +kernel
theorem dX3_counted_0 : decode cX3_counted 0 = .ok (.aload_n 0, 1) := by decide +kernel
theorem dX3_counted_1 : decode cX3_counted 1 = .ok (.iload_n 1, 1) := by decide +kernel
theorem dX3_counted_2 : decode cX3_counted 2 = .ok (.invokevirtual 90, 3) := by decide +kernel
theorem dX3_counted_5 : decode cX3_counted 5 = .ok (.iload_n 2, 1) := by decide +kernel
theorem dX3_counted_6 : decode cX3_counted 6 = .ok (.iconst (-1), 1) := by decide +kernel
theorem dX3_counted_7 : decode cX3_counted 7 = .ok (.invokestatic 183, 3) := by decide +kernel
theorem dX3_counted_10 : decode cX3_counted 10 = .ok (.aload_n 0, 1) := by decide +kernel
theorem dX3_counted_11 : decode cX3_counted 11 = .ok (.getfield 12, 3) := by decide +kernel
theorem dX3_counted_14 : decode cX3_counted 14 = .ok (.getfield 93, 3) := by decide +kernel
theorem dX3_counted_17 : decode cX3_counted 17 = .ok (.iload_n 1, 1) := by decide +kernel
theorem dX3_counted_18 : decode cX3_counted 18 = .ok (.aaload, 1) := by decide +kernel
theorem dX3_counted_19 : decode cX3_counted 19 = .ok (.getfield 194, 3) := by decide +kernel
theorem dX3_counted_22 : decode cX3_counted 22 = .ok (.iload_n 2, 1) := by decide +kernel
theorem dX3_counted_23 : decode cX3_counted 23 = .ok (.iconst 1, 1) := by decide +kernel
theorem dX3_counted_24 : decode cX3_counted 24 = .ok (.iadd, 1) := by decide +kernel
theorem dX3_counted_25 : decode cX3_counted 25 = .ok (.iaload, 1) := by decide +kernel
theorem dX3_counted_26 : decode cX3_counted 26 = .ok (.ireturn, 1) := by decide +kernel
theorem dX3_mean_0 : decode cX3_mean 0 = .ok (.aload_n 0, 1) := by decide +kernel
theorem dX3_mean_1 : decode cX3_mean 1 = .ok (.iload_n 1, 1) := by decide +kernel
theorem dX3_mean_2 : decode cX3_mean 2 = .ok (.invokevirtual 90, 3) := by decide +kernel
theorem dX3_mean_5 : decode cX3_mean 5 = .ok (.iload_n 2, 1) := by decide +kernel
theorem dX3_mean_6 : decode cX3_mean 6 = .ok (.iconst 0, 1) := by decide +kernel
theorem dX3_mean_7 : decode cX3_mean 7 = .ok (.invokestatic 183, 3) := by decide +kernel
theorem dX3_mean_10 : decode cX3_mean 10 = .ok (.aload_n 0, 1) := by decide +kernel
theorem dX3_mean_11 : decode cX3_mean 11 = .ok (.getfield 12, 3) := by decide +kernel
theorem dX3_mean_14 : decode cX3_mean 14 = .ok (.getfield 93, 3) := by decide +kernel
theorem dX3_mean_17 : decode cX3_mean 17 = .ok (.iload_n 1, 1) := by decide +kernel
theorem dX3_mean_18 : decode cX3_mean 18 = .ok (.aaload, 1) := by decide +kernel
theorem dX3_mean_19 : decode cX3_mean 19 = .ok (.getfield 156, 3) := by decide +kernel
theorem dX3_mean_22 : decode cX3_mean 22 = .ok (.istore_n 3, 1) := by decide +kernel
theorem dX3_mean_23 : decode cX3_mean 23 = .ok (.iload_n 3, 1) := by decide +kernel
theorem dX3_mean_24 : decode cX3_mean 24 = .ok (.ifCond .ne 13, 3) := by decide +kernel
theorem dX3_mean_27 : decode cX3_mean 27 = .ok (.new 197, 3) := by decide +kernel
theorem dX3_mean_30 : decode cX3_mean 30 = .ok (.dup, 1) := by decide +kernel
theorem dX3_mean_31 : decode cX3_mean 31 = .ok (.ldc 199, 2) := by decide +kernel
theorem dX3_mean_33 : decode cX3_mean 33 = .ok (.invokespecial 201, 3) := by decide +kernel
theorem dX3_mean_36 : decode cX3_mean 36 = .ok (.athrow, 1) := by decide +kernel
theorem dX3_mean_37 : decode cX3_mean 37 = .ok (.aload_n 0, 1) := by decide +kernel
theorem dX3_mean_38 : decode cX3_mean 38 = .ok (.getfield 12, 3) := by decide +kernel
theorem dX3_mean_41 : decode cX3_mean 41 = .ok (.getfield 93, 3) := by decide +kernel
theorem dX3_mean_44 : decode cX3_mean 44 = .ok (.iload_n 1, 1) := by decide +kernel
theorem dX3_mean_45 : decode cX3_mean 45 = .ok (.aaload, 1) := by decide +kernel
theorem dX3_mean_46 : decode cX3_mean 46 = .ok (.getfield 202, 3) := by decide +kernel
theorem dX3_mean_49 : decode cX3_mean 49 = .ok (.iload_n 2, 1) := by decide +kernel
theorem dX3_mean_50 : decode cX3_mean 50 = .ok (.faload, 1) := by decide +kernel
theorem dX3_mean_51 : decode cX3_mean 51 = .ok (.iload_n 3, 1) := by decide +kernel
theorem dX3_mean_52 : decode cX3_mean 52 = .ok (.i2f, 1) := by decide +kernel
theorem dX3_mean_53 : decode cX3_mean 53 = .ok (.fdiv, 1) := by decide +kernel
theorem dX3_mean_54 : decode cX3_mean 54 = .ok (.freturn, 1) := by decide +kernel
theorem dX3_strongest_0 : decode cX3_strongest 0 = .ok (.aload_n 0, 1) := by decide +kernel
theorem dX3_strongest_1 : decode cX3_strongest 1 = .ok (.iload_n 1, 1) := by decide +kernel
theorem dX3_strongest_2 : decode cX3_strongest 2 = .ok (.invokevirtual 90, 3) := by decide +kernel
theorem dX3_strongest_5 : decode cX3_strongest 5 = .ok (.iconst 0, 1) := by decide +kernel
theorem dX3_strongest_6 : decode cX3_strongest 6 = .ok (.istore_n 3, 1) := by decide +kernel
theorem dX3_strongest_7 : decode cX3_strongest 7 = .ok (.iload_n 3, 1) := by decide +kernel
theorem dX3_strongest_8 : decode cX3_strongest 8 = .ok (.bipush 10, 2) := by decide +kernel
theorem dX3_strongest_10 : decode cX3_strongest 10 = .ok (.if_icmp .ge 28, 3) := by decide +kernel
theorem dX3_strongest_13 : decode cX3_strongest 13 = .ok (.aload_n 0, 1) := by decide +kernel
theorem dX3_strongest_14 : decode cX3_strongest 14 = .ok (.getfield 12, 3) := by decide +kernel
theorem dX3_strongest_17 : decode cX3_strongest 17 = .ok (.getfield 93, 3) := by decide +kernel
theorem dX3_strongest_20 : decode cX3_strongest 20 = .ok (.iload_n 1, 1) := by decide +kernel
theorem dX3_strongest_21 : decode cX3_strongest 21 = .ok (.aaload, 1) := by decide +kernel
theorem dX3_strongest_22 : decode cX3_strongest 22 = .ok (.iload_n 3, 1) := by decide +kernel
theorem dX3_strongest_23 : decode cX3_strongest 23 = .ok (.invokevirtual 205, 3) := by decide +kernel
theorem dX3_strongest_26 : decode cX3_strongest 26 = .ok (.iload_n 2, 1) := by decide +kernel
theorem dX3_strongest_27 : decode cX3_strongest 27 = .ok (.if_icmp .ne 5, 3) := by decide +kernel
theorem dX3_strongest_30 : decode cX3_strongest 30 = .ok (.iload_n 3, 1) := by decide +kernel
theorem dX3_strongest_31 : decode cX3_strongest 31 = .ok (.ireturn, 1) := by decide +kernel
theorem dX3_strongest_32 : decode cX3_strongest 32 = .ok (.iinc 3 1, 3) := by decide +kernel
theorem dX3_strongest_35 : decode cX3_strongest 35 = .ok (.goto (-28), 3) := by decide +kernel
theorem dX3_strongest_38 : decode cX3_strongest 38 = .ok (.new 208, 3) := by decide +kernel
theorem dX3_strongest_41 : decode cX3_strongest 41 = .ok (.dup, 1) := by decide +kernel
theorem dX3_strongest_42 : decode cX3_strongest 42 = .ok (.ldc 210, 2) := by decide +kernel
theorem dX3_strongest_44 : decode cX3_strongest 44 = .ok (.invokespecial 212, 3) := by decide +kernel
theorem dX3_strongest_47 : decode cX3_strongest 47 = .ok (.athrow, 1) := by decide +kernel
theorem dX3_closest_0 : decode cX3_closest 0 = .ok (.aload_n 0, 1) := by decide +kernel
theorem dX3_closest_1 : decode cX3_closest 1 = .ok (.iload_n 1, 1) := by decide +kernel
theorem dX3_closest_2 : decode cX3_closest 2 = .ok (.invokevirtual 90, 3) := by decide +kernel
theorem dX3_closest_5 : decode cX3_closest 5 = .ok (.aload_n 0, 1) := by decide +kernel
theorem dX3_closest_6 : decode cX3_closest 6 = .ok (.getfield 12, 3) := by decide +kernel
theorem dX3_closest_9 : decode cX3_closest 9 = .ok (.getfield 213, 3) := by decide +kernel
theorem dX3_closest_12 : decode cX3_closest 12 = .ok (.ifCond .ne 13, 3) := by decide +kernel
theorem dX3_closest_15 : decode cX3_closest 15 = .ok (.new 208, 3) := by decide +kernel
theorem dX3_closest_18 : decode cX3_closest 18 = .ok (.dup, 1) := by decide +kernel
theorem dX3_closest_19 : decode cX3_closest 19 = .ok (.ldc 216, 2) := by decide +kernel
theorem dX3_closest_21 : decode cX3_closest 21 = .ok (.invokespecial 212, 3) := by decide +kernel
theorem dX3_closest_24 : decode cX3_closest 24 = .ok (.athrow, 1) := by decide +kernel
theorem dX3_closest_25 : decode cX3_closest 25 = .ok (.iconst 0, 1) := by decide +kernel
theorem dX3_closest_26 : decode cX3_closest 26 = .ok (.istore_n 2, 1) := by decide +kernel
theorem dX3_closest_27 : decode cX3_closest 27 = .ok (.iconst 1, 1) := by decide +kernel
theorem dX3_closest_28 : decode cX3_closest 28 = .ok (.istore_n 3, 1) := by decide +kernel
theorem dX3_closest_29 : decode cX3_closest 29 = .ok (.iload_n 3, 1) := by decide +kernel
theorem dX3_closest_30 : decode cX3_closest 30 = .ok (.aload_n 0, 1) := by decide +kernel
theorem dX3_closest_31 : decode cX3_closest 31 = .ok (.getfield 12, 3) := by decide +kernel
theorem dX3_closest_34 : decode cX3_closest 34 = .ok (.getfield 213, 3) := by decide +kernel
theorem dX3_closest_37 : decode cX3_closest 37 = .ok (.if_icmp .ge 33, 3) := by decide +kernel
theorem dX3_closest_40 : decode cX3_closest 40 = .ok (.aload_n 0, 1) := by decide +kernel
theorem dX3_closest_41 : decode cX3_closest 41 = .ok (.getfield 12, 3) := by decide +kernel
theorem dX3_closest_44 : decode cX3_closest 44 = .ok (.iload_n 1, 1) := by decide +kernel
theorem dX3_closest_45 : decode cX3_closest 45 = .ok (.iload_n 3, 1) := by decide +kernel
theorem dX3_closest_46 : decode cX3_closest 46 = .ok (.invokevirtual 218, 3) := by decide +kernel
theorem dX3_closest_49 : decode cX3_closest 49 = .ok (.aload_n 0, 1) := by decide +kernel
theorem dX3_closest_50 : decode cX3_closest 50 = .ok (.getfield 12, 3) := by decide +kernel
theorem dX3_closest_53 : decode cX3_closest 53 = .ok (.iload_n 1, 1) := by decide +kernel
theorem dX3_closest_54 : decode cX3_closest 54 = .ok (.iload_n 2, 1) := by decide +kernel
theorem dX3_closest_55 : decode cX3_closest 55 = .ok (.invokevirtual 218, 3) := by decide +kernel
theorem dX3_closest_58 : decode cX3_closest 58 = .ok (.fcmp .g, 1) := by decide +kernel
theorem dX3_closest_59 : decode cX3_closest 59 = .ok (.ifCond .ge 5, 3) := by decide +kernel
theorem dX3_closest_62 : decode cX3_closest 62 = .ok (.iload_n 3, 1) := by decide +kernel
theorem dX3_closest_63 : decode cX3_closest 63 = .ok (.istore_n 2, 1) := by decide +kernel
theorem dX3_closest_64 : decode cX3_closest 64 = .ok (.iinc 3 1, 3) := by decide +kernel
theorem dX3_closest_67 : decode cX3_closest 67 = .ok (.goto (-38), 3) := by decide +kernel
theorem dX3_closest_70 : decode cX3_closest 70 = .ok (.iload_n 2, 1) := by decide +kernel
theorem dX3_closest_71 : decode cX3_closest 71 = .ok (.ireturn, 1) := by decide +kernel
theorem dX3_knows_0 : decode cX3_knows 0 = .ok (.aload_n 0, 1) := by decide +kernel
theorem dX3_knows_1 : decode cX3_knows 1 = .ok (.iload_n 1, 1) := by decide +kernel
theorem dX3_knows_2 : decode cX3_knows 2 = .ok (.invokevirtual 90, 3) := by decide +kernel
theorem dX3_knows_5 : decode cX3_knows 5 = .ok (.aload_n 0, 1) := by decide +kernel
theorem dX3_knows_6 : decode cX3_knows 6 = .ok (.iload_n 2, 1) := by decide +kernel
theorem dX3_knows_7 : decode cX3_knows 7 = .ok (.invokevirtual 129, 3) := by decide +kernel
theorem dX3_knows_10 : decode cX3_knows 10 = .ok (.aload_n 0, 1) := by decide +kernel
theorem dX3_knows_11 : decode cX3_knows 11 = .ok (.getfield 12, 3) := by decide +kernel
theorem dX3_knows_14 : decode cX3_knows 14 = .ok (.iload_n 1, 1) := by decide +kernel
theorem dX3_knows_15 : decode cX3_knows 15 = .ok (.iload_n 2, 1) := by decide +kernel
theorem dX3_knows_16 : decode cX3_knows 16 = .ok (.invokevirtual 218, 3) := by decide +kernel
theorem dX3_knows_19 : decode cX3_knows 19 = .ok (.freturn, 1) := by decide +kernel
theorem dX3_teach_0 : decode cX3_teach 0 = .ok (.aload_n 0, 1) := by decide +kernel
theorem dX3_teach_1 : decode cX3_teach 1 = .ok (.iload_n 1, 1) := by decide +kernel
theorem dX3_teach_2 : decode cX3_teach 2 = .ok (.invokevirtual 90, 3) := by decide +kernel
theorem dX3_teach_5 : decode cX3_teach 5 = .ok (.aload_n 0, 1) := by decide +kernel
theorem dX3_teach_6 : decode cX3_teach 6 = .ok (.iload_n 2, 1) := by decide +kernel
theorem dX3_teach_7 : decode cX3_teach 7 = .ok (.invokevirtual 129, 3) := by decide +kernel
theorem dX3_teach_10 : decode cX3_teach 10 = .ok (.aload_n 0, 1) := by decide +kernel
theorem dX3_teach_11 : decode cX3_teach 11 = .ok (.iload_n 1, 1) := by decide +kernel
theorem dX3_teach_12 : decode cX3_teach 12 = .ok (.iload_n 2, 1) := by decide +kernel
theorem dX3_teach_13 : decode cX3_teach 13 = .ok (.invokevirtual 222, 3) := by decide +kernel
theorem dX3_teach_16 : decode cX3_teach 16 = .ok (.istore_n 3, 1) := by decide +kernel
theorem dX3_teach_17 : decode cX3_teach 17 = .ok (.iload_n 3, 1) := by decide +kernel
theorem dX3_teach_18 : decode cX3_teach 18 = .ok (.iconst (-1), 1) := by decide +kernel
theorem dX3_teach_19 : decode cX3_teach 19 = .ok (.if_icmp .ne 13, 3) := by decide +kernel
theorem dX3_teach_22 : decode cX3_teach 22 = .ok (.new 75, 3) := by decide +kernel
theorem dX3_teach_25 : decode cX3_teach 25 = .ok (.dup, 1) := by decide +kernel
theorem dX3_teach_26 : decode cX3_teach 26 = .ok (.ldc 226, 2) := by decide +kernel
theorem dX3_teach_28 : decode cX3_teach 28 = .ok (.invokespecial 79, 3) := by decide +kernel
theorem dX3_teach_31 : decode cX3_teach 31 = .ok (.athrow, 1) := by decide +kernel
theorem dX3_teach_32 : decode cX3_teach 32 = .ok (.aload_n 0, 1) := by decide +kernel
theorem dX3_teach_33 : decode cX3_teach 33 = .ok (.aload_n 0, 1) := by decide +kernel
theorem dX3_teach_34 : decode cX3_teach 34 = .ok (.getfield 12, 3) := by decide +kernel
theorem dX3_teach_37 : decode cX3_teach 37 = .ok (.invokevirtual 82, 3) := by decide +kernel
theorem dX3_teach_40 : decode cX3_teach 40 = .ok (.aload_n 0, 1) := by decide +kernel
theorem dX3_teach_41 : decode cX3_teach 41 = .ok (.getfield 12, 3) := by decide +kernel
theorem dX3_teach_44 : decode cX3_teach 44 = .ok (.getfield 93, 3) := by decide +kernel
theorem dX3_teach_47 : decode cX3_teach 47 = .ok (.iload_n 1, 1) := by decide +kernel
theorem dX3_teach_48 : decode cX3_teach 48 = .ok (.aaload, 1) := by decide +kernel
theorem dX3_teach_49 : decode cX3_teach 49 = .ok (.aload_n 0, 1) := by decide +kernel
theorem dX3_teach_50 : decode cX3_teach 50 = .ok (.getfield 40, 3) := by decide +kernel
theorem dX3_teach_53 : decode cX3_teach 53 = .ok (.invokevirtual 228, 3) := by decide +kernel
theorem dX3_teach_56 : decode cX3_teach 56 = .ok (.iload_n 3, 1) := by decide +kernel
theorem dX3_teach_57 : decode cX3_teach 57 = .ok (.ireturn, 1) := by decide +kernel
theorem dX3_day_0 : decode cX3_day 0 = .ok (.aload_n 0, 1) := by decide +kernel
theorem dX3_day_1 : decode cX3_day 1 = .ok (.iload_n 1, 1) := by decide +kernel
theorem dX3_day_2 : decode cX3_day 2 = .ok (.invokevirtual 90, 3) := by decide +kernel
theorem dX3_day_5 : decode cX3_day 5 = .ok (.aload_n 0, 1) := by decide +kernel
theorem dX3_day_6 : decode cX3_day 6 = .ok (.iload_n 1, 1) := by decide +kernel
theorem dX3_day_7 : decode cX3_day 7 = .ok (.iconst 1, 1) := by decide +kernel
theorem dX3_day_8 : decode cX3_day 8 = .ok (.invokevirtual 232, 3) := by decide +kernel
theorem dX3_day_11 : decode cX3_day 11 = .ok (.iconst (-1), 1) := by decide +kernel
theorem dX3_day_12 : decode cX3_day 12 = .ok (.if_icmp .ne 13, 3) := by decide +kernel
theorem dX3_day_15 : decode cX3_day 15 = .ok (.new 75, 3) := by decide +kernel
theorem dX3_day_18 : decode cX3_day 18 = .ok (.dup, 1) := by decide +kernel
theorem dX3_day_19 : decode cX3_day 19 = .ok (.ldc 235, 2) := by decide +kernel
theorem dX3_day_21 : decode cX3_day 21 = .ok (.invokespecial 79, 3) := by decide +kernel
theorem dX3_day_24 : decode cX3_day 24 = .ok (.athrow, 1) := by decide +kernel
theorem dX3_day_25 : decode cX3_day 25 = .ok (.aload_n 0, 1) := by decide +kernel
theorem dX3_day_26 : decode cX3_day 26 = .ok (.aload_n 0, 1) := by decide +kernel
theorem dX3_day_27 : decode cX3_day 27 = .ok (.getfield 12, 3) := by decide +kernel
theorem dX3_day_30 : decode cX3_day 30 = .ok (.invokevirtual 82, 3) := by decide +kernel
theorem dX3_day_33 : decode cX3_day 33 = .ok (.aload_n 0, 1) := by decide +kernel
theorem dX3_day_34 : decode cX3_day 34 = .ok (.getfield 12, 3) := by decide +kernel
theorem dX3_day_37 : decode cX3_day 37 = .ok (.getfield 93, 3) := by decide +kernel
theorem dX3_day_40 : decode cX3_day 40 = .ok (.iload_n 1, 1) := by decide +kernel
theorem dX3_day_41 : decode cX3_day 41 = .ok (.aaload, 1) := by decide +kernel
theorem dX3_day_42 : decode cX3_day 42 = .ok (.aload_n 0, 1) := by decide +kernel
theorem dX3_day_43 : decode cX3_day 43 = .ok (.getfield 40, 3) := by decide +kernel
theorem dX3_day_46 : decode cX3_day 46 = .ok (.invokevirtual 228, 3) := by decide +kernel
theorem dX3_day_49 : decode cX3_day 49 = .ok (.aload_n 0, 1) := by decide +kernel
theorem dX3_day_50 : decode cX3_day 50 = .ok (.getfield 40, 3) := by decide +kernel
theorem dX3_day_53 : decode cX3_day 53 = .ok (.getfield 165, 3) := by decide +kernel
theorem dX3_day_56 : decode cX3_day 56 = .ok (.ireturn, 1) := by decide +kernel
theorem dX3_days_0 : decode cX3_days 0 = .ok (.aload_n 0, 1) := by decide +kernel
theorem dX3_days_1 : decode cX3_days 1 = .ok (.iload_n 1, 1) := by decide +kernel
theorem dX3_days_2 : decode cX3_days 2 = .ok (.invokevirtual 90, 3) := by decide +kernel
theorem dX3_days_5 : decode cX3_days 5 = .ok (.iload_n 2, 1) := by decide +kernel
theorem dX3_days_6 : decode cX3_days 6 = .ok (.invokestatic 237, 3) := by decide +kernel
theorem dX3_days_9 : decode cX3_days 9 = .ok (.aload_n 0, 1) := by decide +kernel
theorem dX3_days_10 : decode cX3_days 10 = .ok (.iload_n 1, 1) := by decide +kernel
theorem dX3_days_11 : decode cX3_days 11 = .ok (.iload_n 2, 1) := by decide +kernel
theorem dX3_days_12 : decode cX3_days 12 = .ok (.invokevirtual 232, 3) := by decide +kernel
theorem dX3_days_15 : decode cX3_days 15 = .ok (.istore_n 3, 1) := by decide +kernel
theorem dX3_days_16 : decode cX3_days 16 = .ok (.iload_n 3, 1) := by decide +kernel
theorem dX3_days_17 : decode cX3_days 17 = .ok (.iconst (-1), 1) := by decide +kernel
theorem dX3_days_18 : decode cX3_days 18 = .ok (.if_icmp .ne 13, 3) := by decide +kernel
theorem dX3_days_21 : decode cX3_days 21 = .ok (.new 75, 3) := by decide +kernel
theorem dX3_days_24 : decode cX3_days 24 = .ok (.dup, 1) := by decide +kernel
theorem dX3_days_25 : decode cX3_days 25 = .ok (.ldc 235, 2) := by decide +kernel
theorem dX3_days_27 : decode cX3_days 27 = .ok (.invokespecial 79, 3) := by decide +kernel
theorem dX3_days_30 : decode cX3_days 30 = .ok (.athrow, 1) := by decide +kernel
theorem dX3_days_31 : decode cX3_days 31 = .ok (.aload_n 0, 1) := by decide +kernel
theorem dX3_days_32 : decode cX3_days 32 = .ok (.aload_n 0, 1) := by decide +kernel
theorem dX3_days_33 : decode cX3_days 33 = .ok (.getfield 12, 3) := by decide +kernel
theorem dX3_days_36 : decode cX3_days 36 = .ok (.invokevirtual 82, 3) := by decide +kernel
theorem dX3_days_39 : decode cX3_days 39 = .ok (.aload_n 0, 1) := by decide +kernel
theorem dX3_days_40 : decode cX3_days 40 = .ok (.getfield 12, 3) := by decide +kernel
theorem dX3_days_43 : decode cX3_days 43 = .ok (.getfield 93, 3) := by decide +kernel
theorem dX3_days_46 : decode cX3_days 46 = .ok (.iload_n 1, 1) := by decide +kernel
theorem dX3_days_47 : decode cX3_days 47 = .ok (.aaload, 1) := by decide +kernel
theorem dX3_days_48 : decode cX3_days 48 = .ok (.aload_n 0, 1) := by decide +kernel
theorem dX3_days_49 : decode cX3_days 49 = .ok (.getfield 40, 3) := by decide +kernel
theorem dX3_days_52 : decode cX3_days 52 = .ok (.invokevirtual 228, 3) := by decide +kernel
theorem dX3_days_55 : decode cX3_days 55 = .ok (.iload_n 3, 1) := by decide +kernel
theorem dX3_days_56 : decode cX3_days 56 = .ok (.ireturn, 1) := by decide +kernel
theorem dX3_wouldCalm_0 : decode cX3_wouldCalm 0 = .ok (.aload_n 0, 1) := by decide +kernel
theorem dX3_wouldCalm_1 : decode cX3_wouldCalm 1 = .ok (.iload_n 1, 1) := by decide +kernel
theorem dX3_wouldCalm_2 : decode cX3_wouldCalm 2 = .ok (.invokevirtual 90, 3) := by decide +kernel
theorem dX3_wouldCalm_5 : decode cX3_wouldCalm 5 = .ok (.iload_n 2, 1) := by decide +kernel
theorem dX3_wouldCalm_6 : decode cX3_wouldCalm 6 = .ok (.invokestatic 237, 3) := by decide +kernel
theorem dX3_wouldCalm_9 : decode cX3_wouldCalm 9 = .ok (.aload_n 0, 1) := by decide +kernel
theorem dX3_wouldCalm_10 : decode cX3_wouldCalm 10 = .ok (.getfield 12, 3) := by decide +kernel
theorem dX3_wouldCalm_13 : decode cX3_wouldCalm 13 = .ok (.getfield 213, 3) := by decide +kernel
theorem dX3_wouldCalm_16 : decode cX3_wouldCalm 16 = .ok (.ifCond .ne 13, 3) := by decide +kernel
theorem dX3_wouldCalm_19 : decode cX3_wouldCalm 19 = .ok (.new 208, 3) := by decide +kernel
theorem dX3_wouldCalm_22 : decode cX3_wouldCalm 22 = .ok (.dup, 1) := by decide +kernel
theorem dX3_wouldCalm_23 : decode cX3_wouldCalm 23 = .ok (.ldc 216, 2) := by decide +kernel
theorem dX3_wouldCalm_25 : decode cX3_wouldCalm 25 = .ok (.invokespecial 212, 3) := by decide +kernel
theorem dX3_wouldCalm_28 : decode cX3_wouldCalm 28 = .ok (.athrow, 1) := by decide +kernel
theorem dX3_wouldCalm_29 : decode cX3_wouldCalm 29 = .ok (.aload_n 0, 1) := by decide +kernel
theorem dX3_wouldCalm_30 : decode cX3_wouldCalm 30 = .ok (.getfield 40, 3) := by decide +kernel
theorem dX3_wouldCalm_33 : decode cX3_wouldCalm 33 = .ok (.aload_n 0, 1) := by decide +kernel
theorem dX3_wouldCalm_34 : decode cX3_wouldCalm 34 = .ok (.getfield 12, 3) := by decide +kernel
theorem dX3_wouldCalm_37 : decode cX3_wouldCalm 37 = .ok (.getfield 93, 3) := by decide +kernel
theorem dX3_wouldCalm_40 : decode cX3_wouldCalm 40 = .ok (.iload_n 1, 1) := by decide +kernel
theorem dX3_wouldCalm_41 : decode cX3_wouldCalm 41 = .ok (.aaload, 1) := by decide +kernel
theorem dX3_wouldCalm_42 : decode cX3_wouldCalm 42 = .ok (.invokevirtual 228, 3) := by decide +kernel
theorem dX3_wouldCalm_45 : decode cX3_wouldCalm 45 = .ok (.aload_n 0, 1) := by decide +kernel
theorem dX3_wouldCalm_46 : decode cX3_wouldCalm 46 = .ok (.getfield 12, 3) := by decide +kernel
theorem dX3_wouldCalm_49 : decode cX3_wouldCalm 49 = .ok (.aload_n 0, 1) := by decide +kernel
theorem dX3_wouldCalm_50 : decode cX3_wouldCalm 50 = .ok (.getfield 40, 3) := by decide +kernel
theorem dX3_wouldCalm_53 : decode cX3_wouldCalm 53 = .ok (.iload_n 2, 1) := by decide +kernel
theorem dX3_wouldCalm_54 : decode cX3_wouldCalm 54 = .ok (.invokevirtual 240, 3) := by decide +kernel
theorem dX3_wouldCalm_57 : decode cX3_wouldCalm 57 = .ok (.istore_n 3, 1) := by decide +kernel
theorem dX3_wouldCalm_58 : decode cX3_wouldCalm 58 = .ok (.iload_n 3, 1) := by decide +kernel
theorem dX3_wouldCalm_59 : decode cX3_wouldCalm 59 = .ok (.iconst (-1), 1) := by decide +kernel
theorem dX3_wouldCalm_60 : decode cX3_wouldCalm 60 = .ok (.if_icmp .eq 13, 3) := by decide +kernel
theorem dX3_wouldCalm_63 : decode cX3_wouldCalm 63 = .ok (.aload_n 0, 1) := by decide +kernel
theorem dX3_wouldCalm_64 : decode cX3_wouldCalm 64 = .ok (.getfield 40, 3) := by decide +kernel
theorem dX3_wouldCalm_67 : decode cX3_wouldCalm 67 = .ok (.getfield 165, 3) := by decide +kernel
theorem dX3_wouldCalm_70 : decode cX3_wouldCalm 70 = .ok (.ifCond .eq 13, 3) := by decide +kernel
theorem dX3_wouldCalm_73 : decode cX3_wouldCalm 73 = .ok (.new 208, 3) := by decide +kernel
theorem dX3_wouldCalm_76 : decode cX3_wouldCalm 76 = .ok (.dup, 1) := by decide +kernel
theorem dX3_wouldCalm_77 : decode cX3_wouldCalm 77 = .ok (.ldc 244, 2) := by decide +kernel
theorem dX3_wouldCalm_79 : decode cX3_wouldCalm 79 = .ok (.invokespecial 212, 3) := by decide +kernel
theorem dX3_wouldCalm_82 : decode cX3_wouldCalm 82 = .ok (.athrow, 1) := by decide +kernel
theorem dX3_wouldCalm_83 : decode cX3_wouldCalm 83 = .ok (.iload_n 3, 1) := by decide +kernel
theorem dX3_wouldCalm_84 : decode cX3_wouldCalm 84 = .ok (.ireturn, 1) := by decide +kernel
theorem dX3_wouldPush_0 : decode cX3_wouldPush 0 = .ok (.aload_n 0, 1) := by decide +kernel
theorem dX3_wouldPush_1 : decode cX3_wouldPush 1 = .ok (.iload_n 1, 1) := by decide +kernel
theorem dX3_wouldPush_2 : decode cX3_wouldPush 2 = .ok (.invokevirtual 90, 3) := by decide +kernel
theorem dX3_wouldPush_5 : decode cX3_wouldPush 5 = .ok (.aload_n 0, 1) := by decide +kernel
theorem dX3_wouldPush_6 : decode cX3_wouldPush 6 = .ok (.iload_n 2, 1) := by decide +kernel
theorem dX3_wouldPush_7 : decode cX3_wouldPush 7 = .ok (.invokevirtual 129, 3) := by decide +kernel
theorem dX3_wouldPush_10 : decode cX3_wouldPush 10 = .ok (.aload_n 0, 1) := by decide +kernel
theorem dX3_wouldPush_11 : decode cX3_wouldPush 11 = .ok (.getfield 12, 3) := by decide +kernel
theorem dX3_wouldPush_14 : decode cX3_wouldPush 14 = .ok (.getfield 93, 3) := by decide +kernel
theorem dX3_wouldPush_17 : decode cX3_wouldPush 17 = .ok (.iload_n 1, 1) := by decide +kernel
theorem dX3_wouldPush_18 : decode cX3_wouldPush 18 = .ok (.aaload, 1) := by decide +kernel
theorem dX3_wouldPush_19 : decode cX3_wouldPush 19 = .ok (.aload_n 0, 1) := by decide +kernel
theorem dX3_wouldPush_20 : decode cX3_wouldPush 20 = .ok (.getfield 12, 3) := by decide +kernel
theorem dX3_wouldPush_23 : decode cX3_wouldPush 23 = .ok (.getfield 93, 3) := by decide +kernel
theorem dX3_wouldPush_26 : decode cX3_wouldPush 26 = .ok (.iload_n 1, 1) := by decide +kernel
theorem dX3_wouldPush_27 : decode cX3_wouldPush 27 = .ok (.aaload, 1) := by decide +kernel
theorem dX3_wouldPush_28 : decode cX3_wouldPush 28 = .ok (.aload_n 0, 1) := by decide +kernel
theorem dX3_wouldPush_29 : decode cX3_wouldPush 29 = .ok (.getfield 12, 3) := by decide +kernel
theorem dX3_wouldPush_32 : decode cX3_wouldPush 32 = .ok (.getfield 135, 3) := by decide +kernel
theorem dX3_wouldPush_35 : decode cX3_wouldPush 35 = .ok (.iload_n 2, 1) := by decide +kernel
theorem dX3_wouldPush_36 : decode cX3_wouldPush 36 = .ok (.iaload, 1) := by decide +kernel
theorem dX3_wouldPush_37 : decode cX3_wouldPush 37 = .ok (.invokevirtual 177, 3) := by decide +kernel
theorem dX3_wouldPush_40 : decode cX3_wouldPush 40 = .ok (.aload_n 0, 1) := by decide +kernel
theorem dX3_wouldPush_41 : decode cX3_wouldPush 41 = .ok (.getfield 12, 3) := by decide +kernel
theorem dX3_wouldPush_44 : decode cX3_wouldPush 44 = .ok (.getfield 139, 3) := by decide +kernel
theorem dX3_wouldPush_47 : decode cX3_wouldPush 47 = .ok (.iload_n 2, 1) := by decide +kernel
theorem dX3_wouldPush_48 : decode cX3_wouldPush 48 = .ok (.baload, 1) := by decide +kernel
theorem dX3_wouldPush_49 : decode cX3_wouldPush 49 = .ok (.invokevirtual 246, 3) := by decide +kernel
theorem dX3_wouldPush_52 : decode cX3_wouldPush 52 = .ok (.ireturn, 1) := by decide +kernel
theorem dX3_votes_0 : decode cX3_votes 0 = .ok (.iload_n 1, 1) := by decide +kernel
theorem dX3_votes_1 : decode cX3_votes 1 = .ok (.invokestatic 116, 3) := by decide +kernel
theorem dX3_votes_4 : decode cX3_votes 4 = .ok (.aload_n 0, 1) := by decide +kernel
theorem dX3_votes_5 : decode cX3_votes 5 = .ok (.getfield 12, 3) := by decide +kernel
theorem dX3_votes_8 : decode cX3_votes 8 = .ok (.iload_n 1, 1) := by decide +kernel
theorem dX3_votes_9 : decode cX3_votes 9 = .ok (.invokevirtual 250, 3) := by decide +kernel
theorem dX3_votes_12 : decode cX3_votes 12 = .ok (.ireturn, 1) := by decide +kernel
theorem dX3_isVotedIn_0 : decode cX3_isVotedIn 0 = .ok (.iload_n 1, 1) := by decide +kernel
theorem dX3_isVotedIn_1 : decode cX3_isVotedIn 1 = .ok (.invokestatic 116, 3) := by decide +kernel
theorem dX3_isVotedIn_4 : decode cX3_isVotedIn 4 = .ok (.aload_n 0, 1) := by decide +kernel
theorem dX3_isVotedIn_5 : decode cX3_isVotedIn 5 = .ok (.getfield 12, 3) := by decide +kernel
theorem dX3_isVotedIn_8 : decode cX3_isVotedIn 8 = .ok (.iload_n 1, 1) := by decide +kernel
theorem dX3_isVotedIn_9 : decode cX3_isVotedIn 9 = .ok (.invokevirtual 253, 3) := by decide +kernel
theorem dX3_isVotedIn_12 : decode cX3_isVotedIn 12 = .ok (.ireturn, 1) := by decide +kernel
theorem dX3_agree_0 : decode cX3_agree 0 = .ok (.aload_n 0, 1) := by decide +kernel
theorem dX3_agree_1 : decode cX3_agree 1 = .ok (.iload_n 1, 1) := by decide +kernel
theorem dX3_agree_2 : decode cX3_agree 2 = .ok (.invokevirtual 90, 3) := by decide +kernel
theorem dX3_agree_5 : decode cX3_agree 5 = .ok (.aload_n 0, 1) := by decide +kernel
theorem dX3_agree_6 : decode cX3_agree 6 = .ok (.iload_n 2, 1) := by decide +kernel
theorem dX3_agree_7 : decode cX3_agree 7 = .ok (.invokevirtual 90, 3) := by decide +kernel
theorem dX3_agree_10 : decode cX3_agree 10 = .ok (.iconst 0, 1) := by decide +kernel
theorem dX3_agree_11 : decode cX3_agree 11 = .ok (.istore_n 3, 1) := by decide +kernel
theorem dX3_agree_12 : decode cX3_agree 12 = .ok (.iconst 0, 1) := by decide +kernel
theorem dX3_agree_13 : decode cX3_agree 13 = .ok (.istore 4, 2) := by decide +kernel
theorem dX3_agree_15 : decode cX3_agree 15 = .ok (.iload 4, 2) := by decide +kernel
theorem dX3_agree_17 : decode cX3_agree 17 = .ok (.aload_n 0, 1) := by decide +kernel
theorem dX3_agree_18 : decode cX3_agree 18 = .ok (.getfield 12, 3) := by decide +kernel
theorem dX3_agree_21 : decode cX3_agree 21 = .ok (.getfield 213, 3) := by decide +kernel
theorem dX3_agree_24 : decode cX3_agree 24 = .ok (.if_icmp .ge 59, 3) := by decide +kernel
theorem dX3_agree_27 : decode cX3_agree 27 = .ok (.aload_n 0, 1) := by decide +kernel
theorem dX3_agree_28 : decode cX3_agree 28 = .ok (.getfield 12, 3) := by decide +kernel
theorem dX3_agree_31 : decode cX3_agree 31 = .ok (.getfield 93, 3) := by decide +kernel
theorem dX3_agree_34 : decode cX3_agree 34 = .ok (.iload_n 1, 1) := by decide +kernel
theorem dX3_agree_35 : decode cX3_agree 35 = .ok (.aaload, 1) := by decide +kernel
theorem dX3_agree_36 : decode cX3_agree 36 = .ok (.aload_n 0, 1) := by decide +kernel
theorem dX3_agree_37 : decode cX3_agree 37 = .ok (.getfield 12, 3) := by decide +kernel
theorem dX3_agree_40 : decode cX3_agree 40 = .ok (.getfield 135, 3) := by decide +kernel
theorem dX3_agree_43 : decode cX3_agree 43 = .ok (.iload 4, 2) := by decide +kernel
theorem dX3_agree_45 : decode cX3_agree 45 = .ok (.iaload, 1) := by decide +kernel
theorem dX3_agree_46 : decode cX3_agree 46 = .ok (.invokevirtual 180, 3) := by decide +kernel
theorem dX3_agree_49 : decode cX3_agree 49 = .ok (.aload_n 0, 1) := by decide +kernel
theorem dX3_agree_50 : decode cX3_agree 50 = .ok (.getfield 12, 3) := by decide +kernel
theorem dX3_agree_53 : decode cX3_agree 53 = .ok (.getfield 93, 3) := by decide +kernel
theorem dX3_agree_56 : decode cX3_agree 56 = .ok (.iload_n 2, 1) := by decide +kernel
theorem dX3_agree_57 : decode cX3_agree 57 = .ok (.aaload, 1) := by decide +kernel
theorem dX3_agree_58 : decode cX3_agree 58 = .ok (.aload_n 0, 1) := by decide +kernel
theorem dX3_agree_59 : decode cX3_agree 59 = .ok (.getfield 12, 3) := by decide +kernel
theorem dX3_agree_62 : decode cX3_agree 62 = .ok (.getfield 135, 3) := by decide +kernel
theorem dX3_agree_65 : decode cX3_agree 65 = .ok (.iload 4, 2) := by decide +kernel
theorem dX3_agree_67 : decode cX3_agree 67 = .ok (.iaload, 1) := by decide +kernel
theorem dX3_agree_68 : decode cX3_agree 68 = .ok (.invokevirtual 180, 3) := by decide +kernel
theorem dX3_agree_71 : decode cX3_agree 71 = .ok (.if_icmp .ne 6, 3) := by decide +kernel
theorem dX3_agree_74 : decode cX3_agree 74 = .ok (.iinc 3 1, 3) := by decide +kernel
theorem dX3_agree_77 : decode cX3_agree 77 = .ok (.iinc 4 1, 3) := by decide +kernel
theorem dX3_agree_80 : decode cX3_agree 80 = .ok (.goto (-65), 3) := by decide +kernel
theorem dX3_agree_83 : decode cX3_agree 83 = .ok (.iload_n 3, 1) := by decide +kernel
theorem dX3_agree_84 : decode cX3_agree 84 = .ok (.ireturn, 1) := by decide +kernel
theorem dX3_mistaken_0 : decode cX3_mistaken 0 = .ok (.iconst 0, 1) := by decide +kernel
theorem dX3_mistaken_1 : decode cX3_mistaken 1 = .ok (.istore_n 1, 1) := by decide +kernel
theorem dX3_mistaken_2 : decode cX3_mistaken 2 = .ok (.iconst 0, 1) := by decide +kernel
theorem dX3_mistaken_3 : decode cX3_mistaken 3 = .ok (.istore_n 2, 1) := by decide +kernel
theorem dX3_mistaken_4 : decode cX3_mistaken 4 = .ok (.iload_n 2, 1) := by decide +kernel
theorem dX3_mistaken_5 : decode cX3_mistaken 5 = .ok (.aload_n 0, 1) := by decide +kernel
theorem dX3_mistaken_6 : decode cX3_mistaken 6 = .ok (.getfield 12, 3) := by decide +kernel
theorem dX3_mistaken_9 : decode cX3_mistaken 9 = .ok (.getfield 213, 3) := by decide +kernel
theorem dX3_mistaken_12 : decode cX3_mistaken 12 = .ok (.if_icmp .ge 40, 3) := by decide +kernel
theorem dX3_mistaken_15 : decode cX3_mistaken 15 = .ok (.aload_n 0, 1) := by decide +kernel
theorem dX3_mistaken_16 : decode cX3_mistaken 16 = .ok (.getfield 12, 3) := by decide +kernel
theorem dX3_mistaken_19 : decode cX3_mistaken 19 = .ok (.aload_n 0, 1) := by decide +kernel
theorem dX3_mistaken_20 : decode cX3_mistaken 20 = .ok (.getfield 12, 3) := by decide +kernel
theorem dX3_mistaken_23 : decode cX3_mistaken 23 = .ok (.getfield 135, 3) := by decide +kernel
theorem dX3_mistaken_26 : decode cX3_mistaken 26 = .ok (.iload_n 2, 1) := by decide +kernel
theorem dX3_mistaken_27 : decode cX3_mistaken 27 = .ok (.iaload, 1) := by decide +kernel
theorem dX3_mistaken_28 : decode cX3_mistaken 28 = .ok (.invokevirtual 253, 3) := by decide +kernel
theorem dX3_mistaken_31 : decode cX3_mistaken 31 = .ok (.aload_n 0, 1) := by decide +kernel
theorem dX3_mistaken_32 : decode cX3_mistaken 32 = .ok (.getfield 12, 3) := by decide +kernel
theorem dX3_mistaken_35 : decode cX3_mistaken 35 = .ok (.getfield 139, 3) := by decide +kernel
theorem dX3_mistaken_38 : decode cX3_mistaken 38 = .ok (.iload_n 2, 1) := by decide +kernel
theorem dX3_mistaken_39 : decode cX3_mistaken 39 = .ok (.baload, 1) := by decide +kernel
theorem dX3_mistaken_40 : decode cX3_mistaken 40 = .ok (.if_icmp .eq 6, 3) := by decide +kernel
theorem dX3_mistaken_43 : decode cX3_mistaken 43 = .ok (.iinc 1 1, 3) := by decide +kernel
theorem dX3_mistaken_46 : decode cX3_mistaken 46 = .ok (.iinc 2 1, 3) := by decide +kernel
theorem dX3_mistaken_49 : decode cX3_mistaken 49 = .ok (.goto (-45), 3) := by decide +kernel
theorem dX3_mistaken_52 : decode cX3_mistaken 52 = .ok (.iload_n 1, 1) := by decide +kernel
theorem dX3_mistaken_53 : decode cX3_mistaken 53 = .ok (.ireturn, 1) := by decide +kernel
theorem dX3_ranked_0 : decode cX3_ranked 0 = .ok (.iconst 0, 1) := by decide +kernel
theorem dX3_ranked_1 : decode cX3_ranked 1 = .ok (.istore_n 2, 1) := by decide +kernel
theorem dX3_ranked_2 : decode cX3_ranked 2 = .ok (.iload_n 2, 1) := by decide +kernel
theorem dX3_ranked_3 : decode cX3_ranked 3 = .ok (.aload_n 0, 1) := by decide +kernel
theorem dX3_ranked_4 : decode cX3_ranked 4 = .ok (.getfield 12, 3) := by decide +kernel
theorem dX3_ranked_7 : decode cX3_ranked 7 = .ok (.getfield 256, 3) := by decide +kernel
theorem dX3_ranked_10 : decode cX3_ranked 10 = .ok (.if_icmp .ge 23, 3) := by decide +kernel
theorem dX3_ranked_13 : decode cX3_ranked 13 = .ok (.aload_n 0, 1) := by decide +kernel
theorem dX3_ranked_14 : decode cX3_ranked 14 = .ok (.getfield 12, 3) := by decide +kernel
theorem dX3_ranked_17 : decode cX3_ranked 17 = .ok (.iload_n 2, 1) := by decide +kernel
theorem dX3_ranked_18 : decode cX3_ranked 18 = .ok (.invokevirtual 259, 3) := by decide +kernel
theorem dX3_ranked_21 : decode cX3_ranked 21 = .ok (.iload_n 1, 1) := by decide +kernel
theorem dX3_ranked_22 : decode cX3_ranked 22 = .ok (.if_icmp .ne 5, 3) := by decide +kernel
theorem dX3_ranked_25 : decode cX3_ranked 25 = .ok (.iload_n 2, 1) := by decide +kernel
theorem dX3_ranked_26 : decode cX3_ranked 26 = .ok (.ireturn, 1) := by decide +kernel
theorem dX3_ranked_27 : decode cX3_ranked 27 = .ok (.iinc 2 1, 3) := by decide +kernel
theorem dX3_ranked_30 : decode cX3_ranked 30 = .ok (.goto (-28), 3) := by decide +kernel
theorem dX3_ranked_33 : decode cX3_ranked 33 = .ok (.new 208, 3) := by decide +kernel
theorem dX3_ranked_36 : decode cX3_ranked 36 = .ok (.dup, 1) := by decide +kernel
theorem dX3_ranked_37 : decode cX3_ranked 37 = .ok (.ldc 210, 2) := by decide +kernel
theorem dX3_ranked_39 : decode cX3_ranked 39 = .ok (.invokespecial 212, 3) := by decide +kernel
theorem dX3_ranked_42 : decode cX3_ranked 42 = .ok (.athrow, 1) := by decide +kernel
theorem dX3_line_0 : decode cX3_line 0 = .ok (.aload_n 0, 1) := by decide +kernel
theorem dX3_line_1 : decode cX3_line 1 = .ok (.iload_n 1, 1) := by decide +kernel
theorem dX3_line_2 : decode cX3_line 2 = .ok (.invokevirtual 129, 3) := by decide +kernel
theorem dX3_line_5 : decode cX3_line 5 = .ok (.aload_n 0, 1) := by decide +kernel
theorem dX3_line_6 : decode cX3_line 6 = .ok (.getfield 54, 3) := by decide +kernel
theorem dX3_line_9 : decode cX3_line 9 = .ok (.iconst 0, 1) := by decide +kernel
theorem dX3_line_10 : decode cX3_line 10 = .ok (.invokevirtual 262, 3) := by decide +kernel
theorem dX3_line_13 : decode cX3_line 13 = .ok (.aload_n 0, 1) := by decide +kernel
theorem dX3_line_14 : decode cX3_line 14 = .ok (.getfield 54, 3) := by decide +kernel
theorem dX3_line_17 : decode cX3_line 17 = .ok (.aload_n 0, 1) := by decide +kernel
theorem dX3_line_18 : decode cX3_line 18 = .ok (.getfield 12, 3) := by decide +kernel
theorem dX3_line_21 : decode cX3_line 21 = .ok (.getfield 139, 3) := by decide +kernel
theorem dX3_line_24 : decode cX3_line 24 = .ok (.iload_n 1, 1) := by decide +kernel
theorem dX3_line_25 : decode cX3_line 25 = .ok (.baload, 1) := by decide +kernel
theorem dX3_line_26 : decode cX3_line 26 = .ok (.ifCond .eq 8, 3) := by decide +kernel
theorem dX3_line_29 : decode cX3_line 29 = .ok (.bipush 43, 2) := by decide +kernel
theorem dX3_line_31 : decode cX3_line 31 = .ok (.goto 5, 3) := by decide +kernel
theorem dX3_line_34 : decode cX3_line 34 = .ok (.bipush 45, 2) := by decide +kernel
theorem dX3_line_36 : decode cX3_line 36 = .ok (.invokevirtual 265, 3) := by decide +kernel
theorem dX3_line_39 : decode cX3_line 39 = .ok (.pop, 1) := by decide +kernel
theorem dX3_line_40 : decode cX3_line 40 = .ok (.iconst 0, 1) := by decide +kernel
theorem dX3_line_41 : decode cX3_line 41 = .ok (.istore_n 2, 1) := by decide +kernel
theorem dX3_line_42 : decode cX3_line 42 = .ok (.iload_n 2, 1) := by decide +kernel
theorem dX3_line_43 : decode cX3_line 43 = .ok (.bipush 10, 2) := by decide +kernel
theorem dX3_line_45 : decode cX3_line 45 = .ok (.if_icmp .ge 39, 3) := by decide +kernel
theorem dX3_line_48 : decode cX3_line 48 = .ok (.aload_n 0, 1) := by decide +kernel
theorem dX3_line_49 : decode cX3_line 49 = .ok (.getfield 12, 3) := by decide +kernel
theorem dX3_line_52 : decode cX3_line 52 = .ok (.getfield 135, 3) := by decide +kernel
theorem dX3_line_55 : decode cX3_line 55 = .ok (.iload_n 1, 1) := by decide +kernel
theorem dX3_line_56 : decode cX3_line 56 = .ok (.iaload, 1) := by decide +kernel
theorem dX3_line_57 : decode cX3_line 57 = .ok (.iload_n 2, 1) := by decide +kernel
theorem dX3_line_58 : decode cX3_line 58 = .ok (.ishr, 1) := by decide +kernel
theorem dX3_line_59 : decode cX3_line 59 = .ok (.iconst 1, 1) := by decide +kernel
theorem dX3_line_60 : decode cX3_line 60 = .ok (.iand, 1) := by decide +kernel
theorem dX3_line_61 : decode cX3_line 61 = .ok (.iconst 1, 1) := by decide +kernel
theorem dX3_line_62 : decode cX3_line 62 = .ok (.if_icmp .ne 16, 3) := by decide +kernel
theorem dX3_line_65 : decode cX3_line 65 = .ok (.aload_n 0, 1) := by decide +kernel
theorem dX3_line_66 : decode cX3_line 66 = .ok (.getfield 54, 3) := by decide +kernel
theorem dX3_line_69 : decode cX3_line 69 = .ok (.bipush 97, 2) := by decide +kernel
theorem dX3_line_71 : decode cX3_line 71 = .ok (.iload_n 2, 1) := by decide +kernel
theorem dX3_line_72 : decode cX3_line 72 = .ok (.iadd, 1) := by decide +kernel
theorem dX3_line_73 : decode cX3_line 73 = .ok (.i2c, 1) := by decide +kernel
theorem dX3_line_74 : decode cX3_line 74 = .ok (.invokevirtual 265, 3) := by decide +kernel
theorem dX3_line_77 : decode cX3_line 77 = .ok (.pop, 1) := by decide +kernel
theorem dX3_line_78 : decode cX3_line 78 = .ok (.iinc 2 1, 3) := by decide +kernel
theorem dX3_line_81 : decode cX3_line 81 = .ok (.goto (-39), 3) := by decide +kernel
theorem dX3_line_84 : decode cX3_line 84 = .ok (.aload_n 0, 1) := by decide +kernel
theorem dX3_line_85 : decode cX3_line 85 = .ok (.getfield 54, 3) := by decide +kernel
theorem dX3_line_88 : decode cX3_line 88 = .ok (.invokevirtual 269, 3) := by decide +kernel
theorem dX3_line_91 : decode cX3_line 91 = .ok (.ireturn, 1) := by decide +kernel
theorem dX3_guardLine_0 : decode cX3_guardLine 0 = .ok (.aload_n 0, 1) := by decide +kernel
theorem dX3_guardLine_1 : decode cX3_guardLine 1 = .ok (.iload_n 1, 1) := by decide +kernel
theorem dX3_guardLine_2 : decode cX3_guardLine 2 = .ok (.invokevirtual 90, 3) := by decide +kernel
theorem dX3_guardLine_5 : decode cX3_guardLine 5 = .ok (.aload_n 0, 1) := by decide +kernel
theorem dX3_guardLine_6 : decode cX3_guardLine 6 = .ok (.getfield 54, 3) := by decide +kernel
theorem dX3_guardLine_9 : decode cX3_guardLine 9 = .ok (.iconst 0, 1) := by decide +kernel
theorem dX3_guardLine_10 : decode cX3_guardLine 10 = .ok (.invokevirtual 262, 3) := by decide +kernel
theorem dX3_guardLine_13 : decode cX3_guardLine 13 = .ok (.iconst 0, 1) := by decide +kernel
theorem dX3_guardLine_14 : decode cX3_guardLine 14 = .ok (.istore_n 2, 1) := by decide +kernel
theorem dX3_guardLine_15 : decode cX3_guardLine 15 = .ok (.iload_n 2, 1) := by decide +kernel
theorem dX3_guardLine_16 : decode cX3_guardLine 16 = .ok (.bipush 10, 2) := by decide +kernel
theorem dX3_guardLine_18 : decode cX3_guardLine 18 = .ok (.if_icmp .gt 45, 3) := by decide +kernel
theorem dX3_guardLine_21 : decode cX3_guardLine 21 = .ok (.iload_n 2, 1) := by decide +kernel
theorem dX3_guardLine_22 : decode cX3_guardLine 22 = .ok (.ifCond .le 13, 3) := by decide +kernel
theorem dX3_guardLine_25 : decode cX3_guardLine 25 = .ok (.aload_n 0, 1) := by decide +kernel
theorem dX3_guardLine_26 : decode cX3_guardLine 26 = .ok (.getfield 54, 3) := by decide +kernel
theorem dX3_guardLine_29 : decode cX3_guardLine 29 = .ok (.bipush 32, 2) := by decide +kernel
theorem dX3_guardLine_31 : decode cX3_guardLine 31 = .ok (.invokevirtual 265, 3) := by decide +kernel
theorem dX3_guardLine_34 : decode cX3_guardLine 34 = .ok (.pop, 1) := by decide +kernel
theorem dX3_guardLine_35 : decode cX3_guardLine 35 = .ok (.aload_n 0, 1) := by decide +kernel
theorem dX3_guardLine_36 : decode cX3_guardLine 36 = .ok (.getfield 54, 3) := by decide +kernel
theorem dX3_guardLine_39 : decode cX3_guardLine 39 = .ok (.aload_n 0, 1) := by decide +kernel
theorem dX3_guardLine_40 : decode cX3_guardLine 40 = .ok (.getfield 12, 3) := by decide +kernel
theorem dX3_guardLine_43 : decode cX3_guardLine 43 = .ok (.getfield 93, 3) := by decide +kernel
theorem dX3_guardLine_46 : decode cX3_guardLine 46 = .ok (.iload_n 1, 1) := by decide +kernel
theorem dX3_guardLine_47 : decode cX3_guardLine 47 = .ok (.aaload, 1) := by decide +kernel
theorem dX3_guardLine_48 : decode cX3_guardLine 48 = .ok (.getfield 194, 3) := by decide +kernel
theorem dX3_guardLine_51 : decode cX3_guardLine 51 = .ok (.iload_n 2, 1) := by decide +kernel
theorem dX3_guardLine_52 : decode cX3_guardLine 52 = .ok (.iaload, 1) := by decide +kernel
theorem dX3_guardLine_53 : decode cX3_guardLine 53 = .ok (.invokevirtual 273, 3) := by decide +kernel
theorem dX3_guardLine_56 : decode cX3_guardLine 56 = .ok (.pop, 1) := by decide +kernel
theorem dX3_guardLine_57 : decode cX3_guardLine 57 = .ok (.iinc 2 1, 3) := by decide +kernel
theorem dX3_guardLine_60 : decode cX3_guardLine 60 = .ok (.goto (-45), 3) := by decide +kernel
theorem dX3_guardLine_63 : decode cX3_guardLine 63 = .ok (.aload_n 0, 1) := by decide +kernel
theorem dX3_guardLine_64 : decode cX3_guardLine 64 = .ok (.getfield 54, 3) := by decide +kernel
theorem dX3_guardLine_67 : decode cX3_guardLine 67 = .ok (.invokevirtual 269, 3) := by decide +kernel
theorem dX3_guardLine_70 : decode cX3_guardLine 70 = .ok (.ireturn, 1) := by decide +kernel
theorem dX3_character_0 : decode cX3_character 0 = .ok (.iload_n 1, 1) := by decide +kernel
theorem dX3_character_1 : decode cX3_character 1 = .ok (.ifCond .lt 14, 3) := by decide +kernel
theorem dX3_character_4 : decode cX3_character 4 = .ok (.iload_n 1, 1) := by decide +kernel
theorem dX3_character_5 : decode cX3_character 5 = .ok (.aload_n 0, 1) := by decide +kernel
theorem dX3_character_6 : decode cX3_character 6 = .ok (.getfield 54, 3) := by decide +kernel
theorem dX3_character_9 : decode cX3_character 9 = .ok (.invokevirtual 269, 3) := by decide +kernel
theorem dX3_character_12 : decode cX3_character 12 = .ok (.if_icmp .lt 14, 3) := by decide +kernel
theorem dX3_character_15 : decode cX3_character 15 = .ok (.new 276, 3) := by decide +kernel
theorem dX3_character_18 : decode cX3_character 18 = .ok (.dup, 1) := by decide +kernel
theorem dX3_character_19 : decode cX3_character 19 = .ok (.ldc_w 278, 3) := by decide +kernel
theorem dX3_character_22 : decode cX3_character 22 = .ok (.invokespecial 280, 3) := by decide +kernel
theorem dX3_character_25 : decode cX3_character 25 = .ok (.athrow, 1) := by decide +kernel
theorem dX3_character_26 : decode cX3_character 26 = .ok (.aload_n 0, 1) := by decide +kernel
theorem dX3_character_27 : decode cX3_character 27 = .ok (.getfield 54, 3) := by decide +kernel
theorem dX3_character_30 : decode cX3_character 30 = .ok (.iload_n 1, 1) := by decide +kernel
theorem dX3_character_31 : decode cX3_character 31 = .ok (.invokevirtual 281, 3) := by decide +kernel
theorem dX3_character_34 : decode cX3_character 34 = .ok (.ireturn, 1) := by decide +kernel
theorem dX3_append_0 : decode cX3_append 0 = .ok (.aload_n 0, 1) := by decide +kernel
theorem dX3_append_1 : decode cX3_append 1 = .ok (.getfield 47, 3) := by decide +kernel
theorem dX3_append_4 : decode cX3_append 4 = .ok (.getfield 285, 3) := by decide +kernel
theorem dX3_append_7 : decode cX3_append 7 = .ok (.bipush 60, 2) := by decide +kernel
theorem dX3_append_9 : decode cX3_append 9 = .ok (.if_icmp .lt 14, 3) := by decide +kernel
theorem dX3_append_12 : decode cX3_append 12 = .ok (.new 287, 3) := by decide +kernel
theorem dX3_append_15 : decode cX3_append 15 = .ok (.dup, 1) := by decide +kernel
theorem dX3_append_16 : decode cX3_append 16 = .ok (.ldc_w 289, 3) := by decide +kernel
theorem dX3_append_19 : decode cX3_append 19 = .ok (.invokespecial 291, 3) := by decide +kernel
theorem dX3_append_22 : decode cX3_append 22 = .ok (.athrow, 1) := by decide +kernel
theorem dX3_append_23 : decode cX3_append 23 = .ok (.aload_n 0, 1) := by decide +kernel
theorem dX3_append_24 : decode cX3_append 24 = .ok (.getfield 47, 3) := by decide +kernel
theorem dX3_append_27 : decode cX3_append 27 = .ok (.getfield 292, 3) := by decide +kernel
theorem dX3_append_30 : decode cX3_append 30 = .ok (.aload_n 0, 1) := by decide +kernel
theorem dX3_append_31 : decode cX3_append 31 = .ok (.getfield 47, 3) := by decide +kernel
theorem dX3_append_34 : decode cX3_append 34 = .ok (.getfield 285, 3) := by decide +kernel
theorem dX3_append_37 : decode cX3_append 37 = .ok (.iload_n 1, 1) := by decide +kernel
theorem dX3_append_38 : decode cX3_append 38 = .ok (.castore, 1) := by decide +kernel
theorem dX3_append_39 : decode cX3_append 39 = .ok (.aload_n 0, 1) := by decide +kernel
theorem dX3_append_40 : decode cX3_append 40 = .ok (.getfield 47, 3) := by decide +kernel
theorem dX3_append_43 : decode cX3_append 43 = .ok (.dup, 1) := by decide +kernel
theorem dX3_append_44 : decode cX3_append 44 = .ok (.getfield 285, 3) := by decide +kernel
theorem dX3_append_47 : decode cX3_append 47 = .ok (.iconst 1, 1) := by decide +kernel
theorem dX3_append_48 : decode cX3_append 48 = .ok (.iadd, 1) := by decide +kernel
theorem dX3_append_49 : decode cX3_append 49 = .ok (.putfield 285, 3) := by decide +kernel
theorem dX3_append_52 : decode cX3_append 52 = .ok (.aload_n 0, 1) := by decide +kernel
theorem dX3_append_53 : decode cX3_append 53 = .ok (.getfield 47, 3) := by decide +kernel
theorem dX3_append_56 : decode cX3_append 56 = .ok (.getfield 285, 3) := by decide +kernel
theorem dX3_append_59 : decode cX3_append 59 = .ok (.ireturn, 1) := by decide +kernel
theorem dX3_run_0 : decode cX3_run 0 = .ok (.aload_n 0, 1) := by decide +kernel
theorem dX3_run_1 : decode cX3_run 1 = .ok (.getfield 47, 3) := by decide +kernel
theorem dX3_run_4 : decode cX3_run 4 = .ok (.invokevirtual 296, 3) := by decide +kernel
theorem dX3_run_7 : decode cX3_run 7 = .ok (.istore_n 1, 1) := by decide +kernel
theorem dX3_run_8 : decode cX3_run 8 = .ok (.aload_n 0, 1) := by decide +kernel
theorem dX3_run_9 : decode cX3_run 9 = .ok (.iload_n 1, 1) := by decide +kernel
theorem dX3_run_10 : decode cX3_run 10 = .ok (.ifCond .eq 7, 3) := by decide +kernel
theorem dX3_run_13 : decode cX3_run 13 = .ok (.iconst (-1), 1) := by decide +kernel
theorem dX3_run_14 : decode cX3_run 14 = .ok (.goto 10, 3) := by decide +kernel
theorem dX3_run_17 : decode cX3_run 17 = .ok (.aload_n 0, 1) := by decide +kernel
theorem dX3_run_18 : decode cX3_run 18 = .ok (.getfield 47, 3) := by decide +kernel
theorem dX3_run_21 : decode cX3_run 21 = .ok (.getfield 299, 3) := by decide +kernel
theorem dX3_run_24 : decode cX3_run 24 = .ok (.putfield 58, 3) := by decide +kernel
theorem dX3_run_27 : decode cX3_run 27 = .ok (.aload_n 0, 1) := by decide +kernel
theorem dX3_run_28 : decode cX3_run 28 = .ok (.getfield 47, 3) := by decide +kernel
theorem dX3_run_31 : decode cX3_run 31 = .ok (.iconst 0, 1) := by decide +kernel
theorem dX3_run_32 : decode cX3_run 32 = .ok (.putfield 285, 3) := by decide +kernel
theorem dX3_run_35 : decode cX3_run 35 = .ok (.iload_n 1, 1) := by decide +kernel
theorem dX3_run_36 : decode cX3_run 36 = .ok (.ifCond .ne 14, 3) := by decide +kernel
theorem dX3_run_39 : decode cX3_run 39 = .ok (.new 106, 3) := by decide +kernel
theorem dX3_run_42 : decode cX3_run 42 = .ok (.dup, 1) := by decide +kernel
theorem dX3_run_43 : decode cX3_run 43 = .ok (.ldc_w 302, 3) := by decide +kernel
theorem dX3_run_46 : decode cX3_run 46 = .ok (.invokespecial 110, 3) := by decide +kernel
theorem dX3_run_49 : decode cX3_run 49 = .ok (.athrow, 1) := by decide +kernel
theorem dX3_run_50 : decode cX3_run 50 = .ok (.aload_n 0, 1) := by decide +kernel
theorem dX3_run_51 : decode cX3_run 51 = .ok (.getfield 16, 3) := by decide +kernel
theorem dX3_run_54 : decode cX3_run 54 = .ok (.aload_n 0, 1) := by decide +kernel
theorem dX3_run_55 : decode cX3_run 55 = .ok (.getfield 12, 3) := by decide +kernel
theorem dX3_run_58 : decode cX3_run 58 = .ok (.invokevirtual 304, 3) := by decide +kernel
theorem dX3_run_61 : decode cX3_run 61 = .ok (.iconst 0, 1) := by decide +kernel
theorem dX3_run_62 : decode cX3_run 62 = .ok (.istore_n 2, 1) := by decide +kernel
theorem dX3_run_63 : decode cX3_run 63 = .ok (.iconst 0, 1) := by decide +kernel
theorem dX3_run_64 : decode cX3_run 64 = .ok (.istore_n 3, 1) := by decide +kernel
theorem dX3_run_65 : decode cX3_run 65 = .ok (.iload_n 3, 1) := by decide +kernel
theorem dX3_run_66 : decode cX3_run 66 = .ok (.aload_n 0, 1) := by decide +kernel
theorem dX3_run_67 : decode cX3_run 67 = .ok (.getfield 47, 3) := by decide +kernel
theorem dX3_run_70 : decode cX3_run 70 = .ok (.getfield 306, 3) := by decide +kernel
theorem dX3_run_73 : decode cX3_run 73 = .ok (.if_icmp .ge 45, 3) := by decide +kernel
theorem dX3_run_76 : decode cX3_run 76 = .ok (.iload_n 2, 1) := by decide +kernel
theorem dX3_run_77 : decode cX3_run 77 = .ok (.ifCond .ne 41, 3) := by decide +kernel
theorem dX3_run_80 : decode cX3_run 80 = .ok (.aload_n 0, 1) := by decide +kernel
theorem dX3_run_81 : decode cX3_run 81 = .ok (.aload_n 0, 1) := by decide +kernel
theorem dX3_run_82 : decode cX3_run 82 = .ok (.getfield 47, 3) := by decide +kernel
theorem dX3_run_85 : decode cX3_run 85 = .ok (.getfield 309, 3) := by decide +kernel
theorem dX3_run_88 : decode cX3_run 88 = .ok (.iload_n 3, 1) := by decide +kernel
theorem dX3_run_89 : decode cX3_run 89 = .ok (.caload, 1) := by decide +kernel
theorem dX3_run_90 : decode cX3_run 90 = .ok (.aload_n 0, 1) := by decide +kernel
theorem dX3_run_91 : decode cX3_run 91 = .ok (.getfield 47, 3) := by decide +kernel
theorem dX3_run_94 : decode cX3_run 94 = .ok (.getfield 312, 3) := by decide +kernel
theorem dX3_run_97 : decode cX3_run 97 = .ok (.iload_n 3, 1) := by decide +kernel
theorem dX3_run_98 : decode cX3_run 98 = .ok (.iaload, 1) := by decide +kernel
theorem dX3_run_99 : decode cX3_run 99 = .ok (.aload_n 0, 1) := by decide +kernel
theorem dX3_run_100 : decode cX3_run 100 = .ok (.getfield 47, 3) := by decide +kernel
theorem dX3_run_103 : decode cX3_run 103 = .ok (.getfield 315, 3) := by decide +kernel
theorem dX3_run_106 : decode cX3_run 106 = .ok (.iload_n 3, 1) := by decide +kernel
theorem dX3_run_107 : decode cX3_run 107 = .ok (.iaload, 1) := by decide +kernel
theorem dX3_run_108 : decode cX3_run 108 = .ok (.invokevirtual 318, 3) := by decide +kernel
theorem dX3_run_111 : decode cX3_run 111 = .ok (.istore_n 2, 1) := by decide +kernel
theorem dX3_run_112 : decode cX3_run 112 = .ok (.iinc 3 1, 3) := by decide +kernel
theorem dX3_run_115 : decode cX3_run 115 = .ok (.goto (-50), 3) := by decide +kernel
theorem dX3_run_118 : decode cX3_run 118 = .ok (.iload_n 2, 1) := by decide +kernel
theorem dX3_run_119 : decode cX3_run 119 = .ok (.ifCond .eq 14, 3) := by decide +kernel
theorem dX3_run_122 : decode cX3_run 122 = .ok (.aload_n 0, 1) := by decide +kernel
theorem dX3_run_123 : decode cX3_run 123 = .ok (.getfield 12, 3) := by decide +kernel
theorem dX3_run_126 : decode cX3_run 126 = .ok (.aload_n 0, 1) := by decide +kernel
theorem dX3_run_127 : decode cX3_run 127 = .ok (.getfield 16, 3) := by decide +kernel
theorem dX3_run_130 : decode cX3_run 130 = .ok (.invokevirtual 304, 3) := by decide +kernel
theorem dX3_run_133 : decode cX3_run 133 = .ok (.iload_n 2, 1) := by decide +kernel
theorem dX3_run_134 : decode cX3_run 134 = .ok (.bipush (-2), 2) := by decide +kernel
theorem dX3_run_136 : decode cX3_run 136 = .ok (.if_icmp .ne 14, 3) := by decide +kernel
theorem dX3_run_139 : decode cX3_run 139 = .ok (.new 106, 3) := by decide +kernel
theorem dX3_run_142 : decode cX3_run 142 = .ok (.dup, 1) := by decide +kernel
theorem dX3_run_143 : decode cX3_run 143 = .ok (.ldc_w 322, 3) := by decide +kernel
theorem dX3_run_146 : decode cX3_run 146 = .ok (.invokespecial 110, 3) := by decide +kernel
theorem dX3_run_149 : decode cX3_run 149 = .ok (.athrow, 1) := by decide +kernel
theorem dX3_run_150 : decode cX3_run 150 = .ok (.iload_n 2, 1) := by decide +kernel
theorem dX3_run_151 : decode cX3_run 151 = .ok (.iconst (-1), 1) := by decide +kernel
theorem dX3_run_152 : decode cX3_run 152 = .ok (.if_icmp .ne 14, 3) := by decide +kernel
theorem dX3_run_155 : decode cX3_run 155 = .ok (.new 75, 3) := by decide +kernel
theorem dX3_run_158 : decode cX3_run 158 = .ok (.dup, 1) := by decide +kernel
theorem dX3_run_159 : decode cX3_run 159 = .ok (.ldc_w 324, 3) := by decide +kernel
theorem dX3_run_162 : decode cX3_run 162 = .ok (.invokespecial 79, 3) := by decide +kernel
theorem dX3_run_165 : decode cX3_run 165 = .ok (.athrow, 1) := by decide +kernel
theorem dX3_run_166 : decode cX3_run 166 = .ok (.aload_n 0, 1) := by decide +kernel
theorem dX3_run_167 : decode cX3_run 167 = .ok (.aload_n 0, 1) := by decide +kernel
theorem dX3_run_168 : decode cX3_run 168 = .ok (.getfield 16, 3) := by decide +kernel
theorem dX3_run_171 : decode cX3_run 171 = .ok (.invokevirtual 82, 3) := by decide +kernel
theorem dX3_run_174 : decode cX3_run 174 = .ok (.aload_n 0, 1) := by decide +kernel
theorem dX3_run_175 : decode cX3_run 175 = .ok (.getfield 47, 3) := by decide +kernel
theorem dX3_run_178 : decode cX3_run 178 = .ok (.getfield 306, 3) := by decide +kernel
theorem dX3_run_181 : decode cX3_run 181 = .ok (.ireturn, 1) := by decide +kernel
theorem dX3_errorPosition_0 : decode cX3_errorPosition 0 = .ok (.aload_n 0, 1) := by decide +kernel
theorem dX3_errorPosition_1 : decode cX3_errorPosition 1 = .ok (.getfield 58, 3) := by decide +kernel
theorem dX3_errorPosition_4 : decode cX3_errorPosition 4 = .ok (.ireturn, 1) := by decide +kernel
theorem dX3_refusal_0 : decode cX3_refusal 0 = .ok (.aload_n 0, 1) := by decide +kernel
theorem dX3_refusal_1 : decode cX3_refusal 1 = .ok (.getfield 61, 3) := by decide +kernel
theorem dX3_refusal_4 : decode cX3_refusal 4 = .ok (.ifCond .ne 14, 3) := by decide +kernel
theorem dX3_refusal_7 : decode cX3_refusal 7 = .ok (.new 208, 3) := by decide +kernel
theorem dX3_refusal_10 : decode cX3_refusal 10 = .ok (.dup, 1) := by decide +kernel
theorem dX3_refusal_11 : decode cX3_refusal 11 = .ok (.ldc_w 326, 3) := by decide +kernel
theorem dX3_refusal_14 : decode cX3_refusal 14 = .ok (.invokespecial 212, 3) := by decide +kernel
theorem dX3_refusal_17 : decode cX3_refusal 17 = .ok (.athrow, 1) := by decide +kernel
theorem dX3_refusal_18 : decode cX3_refusal 18 = .ok (.iload_n 1, 1) := by decide +kernel
theorem dX3_refusal_19 : decode cX3_refusal 19 = .ok (.ifCond .eq 10, 3) := by decide +kernel
theorem dX3_refusal_22 : decode cX3_refusal 22 = .ok (.aload_n 0, 1) := by decide +kernel
theorem dX3_refusal_23 : decode cX3_refusal 23 = .ok (.getfield 64, 3) := by decide +kernel
theorem dX3_refusal_26 : decode cX3_refusal 26 = .ok (.goto 7, 3) := by decide +kernel
theorem dX3_refusal_29 : decode cX3_refusal 29 = .ok (.aload_n 0, 1) := by decide +kernel
theorem dX3_refusal_30 : decode cX3_refusal 30 = .ok (.getfield 61, 3) := by decide +kernel
theorem dX3_refusal_33 : decode cX3_refusal 33 = .ok (.ireturn, 1) := by decide +kernel
theorem dX3_account_0 : decode cX3_account 0 = .ok (.iload_n 1, 1) := by decide +kernel
theorem dX3_account_1 : decode cX3_account 1 = .ok (.tableswitch 122 0 8 #[51, 59, 67, 76, 85, 93, 101, 109, 117], 51) := by decide +kernel
theorem dX3_account_52 : decode cX3_account 52 = .ok (.aload_n 0, 1) := by decide +kernel
theorem dX3_account_53 : decode cX3_account 53 = .ok (.getfield 12, 3) := by decide +kernel
theorem dX3_account_56 : decode cX3_account 56 = .ok (.getfield 256, 3) := by decide +kernel
theorem dX3_account_59 : decode cX3_account 59 = .ok (.ireturn, 1) := by decide +kernel
theorem dX3_account_60 : decode cX3_account 60 = .ok (.aload_n 0, 1) := by decide +kernel
theorem dX3_account_61 : decode cX3_account 61 = .ok (.getfield 12, 3) := by decide +kernel
theorem dX3_account_64 : decode cX3_account 64 = .ok (.getfield 213, 3) := by decide +kernel
theorem dX3_account_67 : decode cX3_account 67 = .ok (.ireturn, 1) := by decide +kernel
theorem dX3_account_68 : decode cX3_account 68 = .ok (.aload_n 0, 1) := by decide +kernel
theorem dX3_account_69 : decode cX3_account 69 = .ok (.getfield 12, 3) := by decide +kernel
theorem dX3_account_72 : decode cX3_account 72 = .ok (.iconst 1, 1) := by decide +kernel
theorem dX3_account_73 : decode cX3_account 73 = .ok (.invokevirtual 328, 3) := by decide +kernel
theorem dX3_account_76 : decode cX3_account 76 = .ok (.ireturn, 1) := by decide +kernel
theorem dX3_account_77 : decode cX3_account 77 = .ok (.aload_n 0, 1) := by decide +kernel
theorem dX3_account_78 : decode cX3_account 78 = .ok (.getfield 12, 3) := by decide +kernel
theorem dX3_account_81 : decode cX3_account 81 = .ok (.iconst 0, 1) := by decide +kernel
theorem dX3_account_82 : decode cX3_account 82 = .ok (.invokevirtual 328, 3) := by decide +kernel
theorem dX3_account_85 : decode cX3_account 85 = .ok (.ireturn, 1) := by decide +kernel
theorem dX3_account_86 : decode cX3_account 86 = .ok (.aload_n 0, 1) := by decide +kernel
theorem dX3_account_87 : decode cX3_account 87 = .ok (.getfield 12, 3) := by decide +kernel
theorem dX3_account_90 : decode cX3_account 90 = .ok (.invokevirtual 332, 3) := by decide +kernel
theorem dX3_account_93 : decode cX3_account 93 = .ok (.ireturn, 1) := by decide +kernel
theorem dX3_account_94 : decode cX3_account 94 = .ok (.aload_n 0, 1) := by decide +kernel
theorem dX3_account_95 : decode cX3_account 95 = .ok (.getfield 12, 3) := by decide +kernel
theorem dX3_account_98 : decode cX3_account 98 = .ok (.invokevirtual 335, 3) := by decide +kernel
theorem dX3_account_101 : decode cX3_account 101 = .ok (.ireturn, 1) := by decide +kernel
theorem dX3_account_102 : decode cX3_account 102 = .ok (.aload_n 0, 1) := by decide +kernel
theorem dX3_account_103 : decode cX3_account 103 = .ok (.getfield 12, 3) := by decide +kernel
theorem dX3_account_106 : decode cX3_account 106 = .ok (.invokevirtual 338, 3) := by decide +kernel
theorem dX3_account_109 : decode cX3_account 109 = .ok (.ireturn, 1) := by decide +kernel
theorem dX3_account_110 : decode cX3_account 110 = .ok (.aload_n 0, 1) := by decide +kernel
theorem dX3_account_111 : decode cX3_account 111 = .ok (.getfield 47, 3) := by decide +kernel
theorem dX3_account_114 : decode cX3_account 114 = .ok (.getfield 285, 3) := by decide +kernel
theorem dX3_account_117 : decode cX3_account 117 = .ok (.ireturn, 1) := by decide +kernel
theorem dX3_account_118 : decode cX3_account 118 = .ok (.aload_n 0, 1) := by decide +kernel
theorem dX3_account_119 : decode cX3_account 119 = .ok (.getfield 34, 3) := by decide +kernel
theorem dX3_account_122 : decode cX3_account 122 = .ok (.ireturn, 1) := by decide +kernel
theorem dX3_account_123 : decode cX3_account 123 = .ok (.new 106, 3) := by decide +kernel
theorem dX3_account_126 : decode cX3_account 126 = .ok (.dup, 1) := by decide +kernel
theorem dX3_account_127 : decode cX3_account 127 = .ok (.ldc_w 341, 3) := by decide +kernel
theorem dX3_account_130 : decode cX3_account 130 = .ok (.invokespecial 110, 3) := by decide +kernel
theorem dX3_account_133 : decode cX3_account 133 = .ok (.athrow, 1) := by decide +kernel
theorem dX3_isWell_0 : decode cX3_isWell 0 = .ok (.aload_n 0, 1) := by decide +kernel
theorem dX3_isWell_1 : decode cX3_isWell 1 = .ok (.getfield 12, 3) := by decide +kernel
theorem dX3_isWell_4 : decode cX3_isWell 4 = .ok (.iconst 1, 1) := by decide +kernel
theorem dX3_isWell_5 : decode cX3_isWell 5 = .ok (.invokevirtual 328, 3) := by decide +kernel
theorem dX3_isWell_8 : decode cX3_isWell 8 = .ok (.aload_n 0, 1) := by decide +kernel
theorem dX3_isWell_9 : decode cX3_isWell 9 = .ok (.getfield 12, 3) := by decide +kernel
theorem dX3_isWell_12 : decode cX3_isWell 12 = .ok (.iconst 0, 1) := by decide +kernel
theorem dX3_isWell_13 : decode cX3_isWell 13 = .ok (.invokevirtual 328, 3) := by decide +kernel
theorem dX3_isWell_16 : decode cX3_isWell 16 = .ok (.iadd, 1) := by decide +kernel
theorem dX3_isWell_17 : decode cX3_isWell 17 = .ok (.aload_n 0, 1) := by decide +kernel
theorem dX3_isWell_18 : decode cX3_isWell 18 = .ok (.getfield 12, 3) := by decide +kernel
theorem dX3_isWell_21 : decode cX3_isWell 21 = .ok (.getfield 213, 3) := by decide +kernel
theorem dX3_isWell_24 : decode cX3_isWell 24 = .ok (.if_icmp .eq 5, 3) := by decide +kernel
theorem dX3_isWell_27 : decode cX3_isWell 27 = .ok (.iconst 0, 1) := by decide +kernel
theorem dX3_isWell_28 : decode cX3_isWell 28 = .ok (.ireturn, 1) := by decide +kernel
theorem dX3_isWell_29 : decode cX3_isWell 29 = .ok (.iconst 0, 1) := by decide +kernel
theorem dX3_isWell_30 : decode cX3_isWell 30 = .ok (.istore_n 1, 1) := by decide +kernel
theorem dX3_isWell_31 : decode cX3_isWell 31 = .ok (.iload_n 1, 1) := by decide +kernel
theorem dX3_isWell_32 : decode cX3_isWell 32 = .ok (.aload_n 0, 1) := by decide +kernel
theorem dX3_isWell_33 : decode cX3_isWell 33 = .ok (.getfield 12, 3) := by decide +kernel
theorem dX3_isWell_36 : decode cX3_isWell 36 = .ok (.getfield 256, 3) := by decide +kernel
theorem dX3_isWell_39 : decode cX3_isWell 39 = .ok (.if_icmp .ge 37, 3) := by decide +kernel
theorem dX3_isWell_42 : decode cX3_isWell 42 = .ok (.aload_n 0, 1) := by decide +kernel
theorem dX3_isWell_43 : decode cX3_isWell 43 = .ok (.getfield 12, 3) := by decide +kernel
theorem dX3_isWell_46 : decode cX3_isWell 46 = .ok (.getfield 93, 3) := by decide +kernel
theorem dX3_isWell_49 : decode cX3_isWell 49 = .ok (.iload_n 1, 1) := by decide +kernel
theorem dX3_isWell_50 : decode cX3_isWell 50 = .ok (.aaload, 1) := by decide +kernel
theorem dX3_isWell_51 : decode cX3_isWell 51 = .ok (.invokevirtual 343, 3) := by decide +kernel
theorem dX3_isWell_54 : decode cX3_isWell 54 = .ok (.ifCond .eq 14, 3) := by decide +kernel
theorem dX3_isWell_57 : decode cX3_isWell 57 = .ok (.aload_n 0, 1) := by decide +kernel
theorem dX3_isWell_58 : decode cX3_isWell 58 = .ok (.getfield 12, 3) := by decide +kernel
theorem dX3_isWell_61 : decode cX3_isWell 61 = .ok (.iload_n 1, 1) := by decide +kernel
theorem dX3_isWell_62 : decode cX3_isWell 62 = .ok (.invokevirtual 346, 3) := by decide +kernel
theorem dX3_isWell_65 : decode cX3_isWell 65 = .ok (.ifCond .ne 5, 3) := by decide +kernel
theorem dX3_isWell_68 : decode cX3_isWell 68 = .ok (.iconst 0, 1) := by decide +kernel
theorem dX3_isWell_69 : decode cX3_isWell 69 = .ok (.ireturn, 1) := by decide +kernel
theorem dX3_isWell_70 : decode cX3_isWell 70 = .ok (.iinc 1 1, 3) := by decide +kernel
theorem dX3_isWell_73 : decode cX3_isWell 73 = .ok (.goto (-42), 3) := by decide +kernel
theorem dX3_isWell_76 : decode cX3_isWell 76 = .ok (.iconst 1, 1) := by decide +kernel
theorem dX3_isWell_77 : decode cX3_isWell 77 = .ok (.ireturn, 1) := by decide +kernel
theorem dX3_meanBadges_0 : decode cX3_meanBadges 0 = .ok (.aload_n 0, 1) := by decide +kernel
theorem dX3_meanBadges_1 : decode cX3_meanBadges 1 = .ok (.getfield 12, 3) := by decide +kernel
theorem dX3_meanBadges_4 : decode cX3_meanBadges 4 = .ok (.getfield 213, 3) := by decide +kernel
theorem dX3_meanBadges_7 : decode cX3_meanBadges 7 = .ok (.ifCond .ne 13, 3) := by decide +kernel
theorem dX3_meanBadges_10 : decode cX3_meanBadges 10 = .ok (.new 197, 3) := by decide +kernel
theorem dX3_meanBadges_13 : decode cX3_meanBadges 13 = .ok (.dup, 1) := by decide +kernel
theorem dX3_meanBadges_14 : decode cX3_meanBadges 14 = .ok (.ldc 216, 2) := by decide +kernel
theorem dX3_meanBadges_16 : decode cX3_meanBadges 16 = .ok (.invokespecial 201, 3) := by decide +kernel
theorem dX3_meanBadges_19 : decode cX3_meanBadges 19 = .ok (.athrow, 1) := by decide +kernel
theorem dX3_meanBadges_20 : decode cX3_meanBadges 20 = .ok (.iconst 0, 1) := by decide +kernel
theorem dX3_meanBadges_21 : decode cX3_meanBadges 21 = .ok (.istore_n 1, 1) := by decide +kernel
theorem dX3_meanBadges_22 : decode cX3_meanBadges 22 = .ok (.iconst 0, 1) := by decide +kernel
theorem dX3_meanBadges_23 : decode cX3_meanBadges 23 = .ok (.istore_n 2, 1) := by decide +kernel
theorem dX3_meanBadges_24 : decode cX3_meanBadges 24 = .ok (.iload_n 2, 1) := by decide +kernel
theorem dX3_meanBadges_25 : decode cX3_meanBadges 25 = .ok (.aload_n 0, 1) := by decide +kernel
theorem dX3_meanBadges_26 : decode cX3_meanBadges 26 = .ok (.getfield 12, 3) := by decide +kernel
theorem dX3_meanBadges_29 : decode cX3_meanBadges 29 = .ok (.getfield 213, 3) := by decide +kernel
theorem dX3_meanBadges_32 : decode cX3_meanBadges 32 = .ok (.if_icmp .ge 24, 3) := by decide +kernel
theorem dX3_meanBadges_35 : decode cX3_meanBadges 35 = .ok (.iload_n 1, 1) := by decide +kernel
theorem dX3_meanBadges_36 : decode cX3_meanBadges 36 = .ok (.aload_n 0, 1) := by decide +kernel
theorem dX3_meanBadges_37 : decode cX3_meanBadges 37 = .ok (.getfield 12, 3) := by decide +kernel
theorem dX3_meanBadges_40 : decode cX3_meanBadges 40 = .ok (.getfield 135, 3) := by decide +kernel
theorem dX3_meanBadges_43 : decode cX3_meanBadges 43 = .ok (.iload_n 2, 1) := by decide +kernel
theorem dX3_meanBadges_44 : decode cX3_meanBadges 44 = .ok (.iaload, 1) := by decide +kernel
theorem dX3_meanBadges_45 : decode cX3_meanBadges 45 = .ok (.invokestatic 143, 3) := by decide +kernel
theorem dX3_meanBadges_48 : decode cX3_meanBadges 48 = .ok (.iadd, 1) := by decide +kernel
theorem dX3_meanBadges_49 : decode cX3_meanBadges 49 = .ok (.istore_n 1, 1) := by decide +kernel
theorem dX3_meanBadges_50 : decode cX3_meanBadges 50 = .ok (.iinc 2 1, 3) := by decide +kernel
theorem dX3_meanBadges_53 : decode cX3_meanBadges 53 = .ok (.goto (-29), 3) := by decide +kernel
theorem dX3_meanBadges_56 : decode cX3_meanBadges 56 = .ok (.iload_n 1, 1) := by decide +kernel
theorem dX3_meanBadges_57 : decode cX3_meanBadges 57 = .ok (.i2d, 1) := by decide +kernel
theorem dX3_meanBadges_58 : decode cX3_meanBadges 58 = .ok (.aload_n 0, 1) := by decide +kernel
theorem dX3_meanBadges_59 : decode cX3_meanBadges 59 = .ok (.getfield 12, 3) := by decide +kernel
theorem dX3_meanBadges_62 : decode cX3_meanBadges 62 = .ok (.getfield 213, 3) := by decide +kernel
theorem dX3_meanBadges_65 : decode cX3_meanBadges 65 = .ok (.i2d, 1) := by decide +kernel
theorem dX3_meanBadges_66 : decode cX3_meanBadges 66 = .ok (.ddiv, 1) := by decide +kernel
theorem dX3_meanBadges_67 : decode cX3_meanBadges 67 = .ok (.dreturn, 1) := by decide +kernel
theorem dX3_undo_0 : decode cX3_undo 0 = .ok (.aload_n 0, 1) := by decide +kernel
theorem dX3_undo_1 : decode cX3_undo 1 = .ok (.getfield 34, 3) := by decide +kernel
theorem dX3_undo_4 : decode cX3_undo 4 = .ok (.ifCond .ne 14, 3) := by decide +kernel
theorem dX3_undo_7 : decode cX3_undo 7 = .ok (.new 287, 3) := by decide +kernel
theorem dX3_undo_10 : decode cX3_undo 10 = .ok (.dup, 1) := by decide +kernel
theorem dX3_undo_11 : decode cX3_undo 11 = .ok (.ldc_w 349, 3) := by decide +kernel
theorem dX3_undo_14 : decode cX3_undo 14 = .ok (.invokespecial 291, 3) := by decide +kernel
theorem dX3_undo_17 : decode cX3_undo 17 = .ok (.athrow, 1) := by decide +kernel
theorem dX3_undo_18 : decode cX3_undo 18 = .ok (.aload_n 0, 1) := by decide +kernel
theorem dX3_undo_19 : decode cX3_undo 19 = .ok (.dup, 1) := by decide +kernel
theorem dX3_undo_20 : decode cX3_undo 20 = .ok (.getfield 34, 3) := by decide +kernel
theorem dX3_undo_23 : decode cX3_undo 23 = .ok (.iconst 1, 1) := by decide +kernel
theorem dX3_undo_24 : decode cX3_undo 24 = .ok (.isub, 1) := by decide +kernel
theorem dX3_undo_25 : decode cX3_undo 25 = .ok (.putfield 34, 3) := by decide +kernel
theorem dX3_undo_28 : decode cX3_undo 28 = .ok (.aload_n 0, 1) := by decide +kernel
theorem dX3_undo_29 : decode cX3_undo 29 = .ok (.getfield 12, 3) := by decide +kernel
theorem dX3_undo_32 : decode cX3_undo 32 = .ok (.aload_n 0, 1) := by decide +kernel
theorem dX3_undo_33 : decode cX3_undo 33 = .ok (.getfield 26, 3) := by decide +kernel
theorem dX3_undo_36 : decode cX3_undo 36 = .ok (.aload_n 0, 1) := by decide +kernel
theorem dX3_undo_37 : decode cX3_undo 37 = .ok (.getfield 30, 3) := by decide +kernel
theorem dX3_undo_40 : decode cX3_undo 40 = .ok (.aload_n 0, 1) := by decide +kernel
theorem dX3_undo_41 : decode cX3_undo 41 = .ok (.getfield 34, 3) := by decide +kernel
theorem dX3_undo_44 : decode cX3_undo 44 = .ok (.iadd, 1) := by decide +kernel
theorem dX3_undo_45 : decode cX3_undo 45 = .ok (.bipush 8, 2) := by decide +kernel
theorem dX3_undo_47 : decode cX3_undo 47 = .ok (.irem, 1) := by decide +kernel
theorem dX3_undo_48 : decode cX3_undo 48 = .ok (.aaload, 1) := by decide +kernel
theorem dX3_undo_49 : decode cX3_undo 49 = .ok (.invokevirtual 304, 3) := by decide +kernel
theorem dX3_undo_52 : decode cX3_undo 52 = .ok (.aload_n 0, 1) := by decide +kernel
theorem dX3_undo_53 : decode cX3_undo 53 = .ok (.getfield 34, 3) := by decide +kernel
theorem dX3_undo_56 : decode cX3_undo 56 = .ok (.ireturn, 1) := by decide +kernel
theorem dX3_save_0 : decode cX3_save 0 = .ok (.aload_n 0, 1) := by decide +kernel
theorem dX3_save_1 : decode cX3_save 1 = .ok (.getfield 19, 3) := by decide +kernel
theorem dX3_save_4 : decode cX3_save 4 = .ok (.aload_n 0, 1) := by decide +kernel
theorem dX3_save_5 : decode cX3_save 5 = .ok (.getfield 12, 3) := by decide +kernel
theorem dX3_save_8 : decode cX3_save 8 = .ok (.invokevirtual 304, 3) := by decide +kernel
theorem dX3_save_11 : decode cX3_save 11 = .ok (.aload_n 0, 1) := by decide +kernel
theorem dX3_save_12 : decode cX3_save 12 = .ok (.iconst 1, 1) := by decide +kernel
theorem dX3_save_13 : decode cX3_save 13 = .ok (.putfield 22, 3) := by decide +kernel
theorem dX3_save_16 : decode cX3_save 16 = .ok (.aload_n 0, 1) := by decide +kernel
theorem dX3_save_17 : decode cX3_save 17 = .ok (.getfield 12, 3) := by decide +kernel
theorem dX3_save_20 : decode cX3_save 20 = .ok (.getfield 213, 3) := by decide +kernel
theorem dX3_save_23 : decode cX3_save 23 = .ok (.ireturn, 1) := by decide +kernel
theorem dX3_restore_0 : decode cX3_restore 0 = .ok (.aload_n 0, 1) := by decide +kernel
theorem dX3_restore_1 : decode cX3_restore 1 = .ok (.getfield 22, 3) := by decide +kernel
theorem dX3_restore_4 : decode cX3_restore 4 = .ok (.ifCond .ne 14, 3) := by decide +kernel
theorem dX3_restore_7 : decode cX3_restore 7 = .ok (.new 287, 3) := by decide +kernel
theorem dX3_restore_10 : decode cX3_restore 10 = .ok (.dup, 1) := by decide +kernel
theorem dX3_restore_11 : decode cX3_restore 11 = .ok (.ldc_w 351, 3) := by decide +kernel
theorem dX3_restore_14 : decode cX3_restore 14 = .ok (.invokespecial 291, 3) := by decide +kernel
theorem dX3_restore_17 : decode cX3_restore 17 = .ok (.athrow, 1) := by decide +kernel
theorem dX3_restore_18 : decode cX3_restore 18 = .ok (.aload_n 0, 1) := by decide +kernel
theorem dX3_restore_19 : decode cX3_restore 19 = .ok (.getfield 12, 3) := by decide +kernel
theorem dX3_restore_22 : decode cX3_restore 22 = .ok (.aload_n 0, 1) := by decide +kernel
theorem dX3_restore_23 : decode cX3_restore 23 = .ok (.getfield 19, 3) := by decide +kernel
theorem dX3_restore_26 : decode cX3_restore 26 = .ok (.invokevirtual 304, 3) := by decide +kernel
theorem dX3_restore_29 : decode cX3_restore 29 = .ok (.aload_n 0, 1) := by decide +kernel
theorem dX3_restore_30 : decode cX3_restore 30 = .ok (.iconst 0, 1) := by decide +kernel
theorem dX3_restore_31 : decode cX3_restore 31 = .ok (.putfield 34, 3) := by decide +kernel
theorem dX3_restore_34 : decode cX3_restore 34 = .ok (.aload_n 0, 1) := by decide +kernel
theorem dX3_restore_35 : decode cX3_restore 35 = .ok (.getfield 12, 3) := by decide +kernel
theorem dX3_restore_38 : decode cX3_restore 38 = .ok (.getfield 213, 3) := by decide +kernel
theorem dX3_restore_41 : decode cX3_restore 41 = .ok (.ireturn, 1) := by decide +kernel
theorem dX3_requireGuard_0 : decode cX3_requireGuard 0 = .ok (.aload_n 0, 1) := by decide +kernel
theorem dX3_requireGuard_1 : decode cX3_requireGuard 1 = .ok (.getfield 12, 3) := by decide +kernel
theorem dX3_requireGuard_4 : decode cX3_requireGuard 4 = .ok (.iload_n 1, 1) := by decide +kernel
theorem dX3_requireGuard_5 : decode cX3_requireGuard 5 = .ok (.invokevirtual 353, 3) := by decide +kernel
theorem dX3_requireGuard_8 : decode cX3_requireGuard 8 = .ok (.ifCond .ne 14, 3) := by decide +kernel
theorem dX3_requireGuard_11 : decode cX3_requireGuard 11 = .ok (.new 276, 3) := by decide +kernel
theorem dX3_requireGuard_14 : decode cX3_requireGuard 14 = .ok (.dup, 1) := by decide +kernel
theorem dX3_requireGuard_15 : decode cX3_requireGuard 15 = .ok (.ldc_w 356, 3) := by decide +kernel
theorem dX3_requireGuard_18 : decode cX3_requireGuard 18 = .ok (.invokespecial 280, 3) := by decide +kernel
theorem dX3_requireGuard_21 : decode cX3_requireGuard 21 = .ok (.athrow, 1) := by decide +kernel
theorem dX3_requireGuard_22 : decode cX3_requireGuard 22 = .ok (.return_, 1) := by decide +kernel
theorem dX3_requireVisitor_0 : decode cX3_requireVisitor 0 = .ok (.aload_n 0, 1) := by decide +kernel
theorem dX3_requireVisitor_1 : decode cX3_requireVisitor 1 = .ok (.getfield 12, 3) := by decide +kernel
theorem dX3_requireVisitor_4 : decode cX3_requireVisitor 4 = .ok (.iload_n 1, 1) := by decide +kernel
theorem dX3_requireVisitor_5 : decode cX3_requireVisitor 5 = .ok (.invokevirtual 358, 3) := by decide +kernel
theorem dX3_requireVisitor_8 : decode cX3_requireVisitor 8 = .ok (.ifCond .ne 14, 3) := by decide +kernel
theorem dX3_requireVisitor_11 : decode cX3_requireVisitor 11 = .ok (.new 276, 3) := by decide +kernel
theorem dX3_requireVisitor_14 : decode cX3_requireVisitor 14 = .ok (.dup, 1) := by decide +kernel
theorem dX3_requireVisitor_15 : decode cX3_requireVisitor 15 = .ok (.ldc_w 361, 3) := by decide +kernel
theorem dX3_requireVisitor_18 : decode cX3_requireVisitor 18 = .ok (.invokespecial 280, 3) := by decide +kernel
theorem dX3_requireVisitor_21 : decode cX3_requireVisitor 21 = .ok (.athrow, 1) := by decide +kernel
theorem dX3_requireVisitor_22 : decode cX3_requireVisitor 22 = .ok (.return_, 1) := by decide +kernel
theorem dX3_requireRate_0 : decode cX3_requireRate 0 = .ok (.iload_n 0, 1) := by decide +kernel
theorem dX3_requireRate_1 : decode cX3_requireRate 1 = .ok (.invokestatic 363, 3) := by decide +kernel
theorem dX3_requireRate_4 : decode cX3_requireRate 4 = .ok (.ifCond .ne 14, 3) := by decide +kernel
theorem dX3_requireRate_7 : decode cX3_requireRate 7 = .ok (.new 106, 3) := by decide +kernel
theorem dX3_requireRate_10 : decode cX3_requireRate 10 = .ok (.dup, 1) := by decide +kernel
theorem dX3_requireRate_11 : decode cX3_requireRate 11 = .ok (.ldc_w 366, 3) := by decide +kernel
theorem dX3_requireRate_14 : decode cX3_requireRate 14 = .ok (.invokespecial 110, 3) := by decide +kernel
theorem dX3_requireRate_17 : decode cX3_requireRate 17 = .ok (.athrow, 1) := by decide +kernel
theorem dX3_requireRate_18 : decode cX3_requireRate 18 = .ok (.return_, 1) := by decide +kernel
theorem dX3_requireSet_0 : decode cX3_requireSet 0 = .ok (.iload_n 0, 1) := by decide +kernel
theorem dX3_requireSet_1 : decode cX3_requireSet 1 = .ok (.iconst 1, 1) := by decide +kernel
theorem dX3_requireSet_2 : decode cX3_requireSet 2 = .ok (.if_icmp .lt 10, 3) := by decide +kernel
theorem dX3_requireSet_5 : decode cX3_requireSet 5 = .ok (.iload_n 0, 1) := by decide +kernel
theorem dX3_requireSet_6 : decode cX3_requireSet 6 = .ok (.sipush 1023, 3) := by decide +kernel
theorem dX3_requireSet_9 : decode cX3_requireSet 9 = .ok (.if_icmp .le 14, 3) := by decide +kernel
theorem dX3_requireSet_12 : decode cX3_requireSet 12 = .ok (.new 106, 3) := by decide +kernel
theorem dX3_requireSet_15 : decode cX3_requireSet 15 = .ok (.dup, 1) := by decide +kernel
theorem dX3_requireSet_16 : decode cX3_requireSet 16 = .ok (.ldc_w 368, 3) := by decide +kernel
theorem dX3_requireSet_19 : decode cX3_requireSet 19 = .ok (.invokespecial 110, 3) := by decide +kernel
theorem dX3_requireSet_22 : decode cX3_requireSet 22 = .ok (.athrow, 1) := by decide +kernel
theorem dX3_requireSet_23 : decode cX3_requireSet 23 = .ok (.return_, 1) := by decide +kernel
theorem dX3_requireBadge_0 : decode cX3_requireBadge 0 = .ok (.iload_n 0, 1) := by decide +kernel
theorem dX3_requireBadge_1 : decode cX3_requireBadge 1 = .ok (.iload_n 1, 1) := by decide +kernel
theorem dX3_requireBadge_2 : decode cX3_requireBadge 2 = .ok (.if_icmp .lt 9, 3) := by decide +kernel
theorem dX3_requireBadge_5 : decode cX3_requireBadge 5 = .ok (.iload_n 0, 1) := by decide +kernel
theorem dX3_requireBadge_6 : decode cX3_requireBadge 6 = .ok (.bipush 10, 2) := by decide +kernel
theorem dX3_requireBadge_8 : decode cX3_requireBadge 8 = .ok (.if_icmp .lt 14, 3) := by decide +kernel
theorem dX3_requireBadge_11 : decode cX3_requireBadge 11 = .ok (.new 106, 3) := by decide +kernel
theorem dX3_requireBadge_14 : decode cX3_requireBadge 14 = .ok (.dup, 1) := by decide +kernel
theorem dX3_requireBadge_15 : decode cX3_requireBadge 15 = .ok (.ldc_w 370, 3) := by decide +kernel
theorem dX3_requireBadge_18 : decode cX3_requireBadge 18 = .ok (.invokespecial 110, 3) := by decide +kernel
theorem dX3_requireBadge_21 : decode cX3_requireBadge 21 = .ok (.athrow, 1) := by decide +kernel
theorem dX3_requireBadge_22 : decode cX3_requireBadge 22 = .ok (.return_, 1) := by decide +kernel
theorem dX3_requireDays_0 : decode cX3_requireDays 0 = .ok (.iload_n 0, 1) := by decide +kernel
theorem dX3_requireDays_1 : decode cX3_requireDays 1 = .ok (.iconst 1, 1) := by decide +kernel
theorem dX3_requireDays_2 : decode cX3_requireDays 2 = .ok (.if_icmp .lt 9, 3) := by decide +kernel
theorem dX3_requireDays_5 : decode cX3_requireDays 5 = .ok (.iload_n 0, 1) := by decide +kernel
theorem dX3_requireDays_6 : decode cX3_requireDays 6 = .ok (.bipush 30, 2) := by decide +kernel
theorem dX3_requireDays_8 : decode cX3_requireDays 8 = .ok (.if_icmp .le 14, 3) := by decide +kernel
theorem dX3_requireDays_11 : decode cX3_requireDays 11 = .ok (.new 106, 3) := by decide +kernel
theorem dX3_requireDays_14 : decode cX3_requireDays 14 = .ok (.dup, 1) := by decide +kernel
theorem dX3_requireDays_15 : decode cX3_requireDays 15 = .ok (.ldc_w 372, 3) := by decide +kernel
theorem dX3_requireDays_18 : decode cX3_requireDays 18 = .ok (.invokespecial 110, 3) := by decide +kernel
theorem dX3_requireDays_21 : decode cX3_requireDays 21 = .ok (.athrow, 1) := by decide +kernel
theorem dX3_requireDays_22 : decode cX3_requireDays 22 = .ok (.return_, 1) := by decide +kernel
theorem dX3_isRate_0 : decode cX3_isRate 0 = .ok (.iload_n 0, 1) := by decide +kernel
theorem dX3_isRate_1 : decode cX3_isRate 1 = .ok (.iconst 1, 1) := by decide +kernel
theorem dX3_isRate_2 : decode cX3_isRate 2 = .ok (.if_icmp .lt 13, 3) := by decide +kernel
theorem dX3_isRate_5 : decode cX3_isRate 5 = .ok (.iload_n 0, 1) := by decide +kernel
theorem dX3_isRate_6 : decode cX3_isRate 6 = .ok (.bipush 64, 2) := by decide +kernel
theorem dX3_isRate_8 : decode cX3_isRate 8 = .ok (.if_icmp .gt 7, 3) := by decide +kernel
theorem dX3_isRate_11 : decode cX3_isRate 11 = .ok (.iconst 1, 1) := by decide +kernel
theorem dX3_isRate_12 : decode cX3_isRate 12 = .ok (.goto 4, 3) := by decide +kernel
theorem dX3_isRate_15 : decode cX3_isRate 15 = .ok (.iconst 0, 1) := by decide +kernel
theorem dX3_isRate_16 : decode cX3_isRate 16 = .ok (.ireturn, 1) := by decide +kernel
theorem dX3_refuse_0 : decode cX3_refuse 0 = .ok (.aload_n 0, 1) := by decide +kernel
theorem dX3_refuse_1 : decode cX3_refuse 1 = .ok (.iload_n 1, 1) := by decide +kernel
theorem dX3_refuse_2 : decode cX3_refuse 2 = .ok (.putfield 61, 3) := by decide +kernel
theorem dX3_refuse_5 : decode cX3_refuse 5 = .ok (.aload_n 0, 1) := by decide +kernel
theorem dX3_refuse_6 : decode cX3_refuse 6 = .ok (.iload_n 2, 1) := by decide +kernel
theorem dX3_refuse_7 : decode cX3_refuse 7 = .ok (.putfield 64, 3) := by decide +kernel
theorem dX3_refuse_10 : decode cX3_refuse 10 = .ok (.return_, 1) := by decide +kernel
theorem dX3_refusesGuard_0 : decode cX3_refusesGuard 0 = .ok (.aload_n 0, 1) := by decide +kernel
theorem dX3_refusesGuard_1 : decode cX3_refusesGuard 1 = .ok (.getfield 12, 3) := by decide +kernel
theorem dX3_refusesGuard_4 : decode cX3_refusesGuard 4 = .ok (.getfield 256, 3) := by decide +kernel
theorem dX3_refusesGuard_7 : decode cX3_refusesGuard 7 = .ok (.iconst 4, 1) := by decide +kernel
theorem dX3_refusesGuard_8 : decode cX3_refusesGuard 8 = .ok (.if_icmp .ge 5, 3) := by decide +kernel
theorem dX3_refusesGuard_11 : decode cX3_refusesGuard 11 = .ok (.iconst 0, 1) := by decide +kernel
theorem dX3_refusesGuard_12 : decode cX3_refusesGuard 12 = .ok (.ireturn, 1) := by decide +kernel
theorem dX3_refusesGuard_13 : decode cX3_refusesGuard 13 = .ok (.aload_n 0, 1) := by decide +kernel
theorem dX3_refusesGuard_14 : decode cX3_refusesGuard 14 = .ok (.iconst 1, 1) := by decide +kernel
theorem dX3_refusesGuard_15 : decode cX3_refusesGuard 15 = .ok (.iconst 4, 1) := by decide +kernel
theorem dX3_refusesGuard_16 : decode cX3_refusesGuard 16 = .ok (.invokevirtual 100, 3) := by decide +kernel
theorem dX3_refusesGuard_19 : decode cX3_refusesGuard 19 = .ok (.iconst 1, 1) := by decide +kernel
theorem dX3_refusesGuard_20 : decode cX3_refusesGuard 20 = .ok (.ireturn, 1) := by decide +kernel
theorem dX3_refusesVisitor_0 : decode cX3_refusesVisitor 0 = .ok (.aload_n 0, 1) := by decide +kernel
theorem dX3_refusesVisitor_1 : decode cX3_refusesVisitor 1 = .ok (.getfield 12, 3) := by decide +kernel
theorem dX3_refusesVisitor_4 : decode cX3_refusesVisitor 4 = .ok (.iload_n 1, 1) := by decide +kernel
theorem dX3_refusesVisitor_5 : decode cX3_refusesVisitor 5 = .ok (.invokevirtual 374, 3) := by decide +kernel
theorem dX3_refusesVisitor_8 : decode cX3_refusesVisitor 8 = .ok (.istore_n 2, 1) := by decide +kernel
theorem dX3_refusesVisitor_9 : decode cX3_refusesVisitor 9 = .ok (.iload_n 2, 1) := by decide +kernel
theorem dX3_refusesVisitor_10 : decode cX3_refusesVisitor 10 = .ok (.ifCond .lt 11, 3) := by decide +kernel
theorem dX3_refusesVisitor_13 : decode cX3_refusesVisitor 13 = .ok (.aload_n 0, 1) := by decide +kernel
theorem dX3_refusesVisitor_14 : decode cX3_refusesVisitor 14 = .ok (.iconst 2, 1) := by decide +kernel
theorem dX3_refusesVisitor_15 : decode cX3_refusesVisitor 15 = .ok (.iload_n 2, 1) := by decide +kernel
theorem dX3_refusesVisitor_16 : decode cX3_refusesVisitor 16 = .ok (.invokevirtual 100, 3) := by decide +kernel
theorem dX3_refusesVisitor_19 : decode cX3_refusesVisitor 19 = .ok (.iconst 1, 1) := by decide +kernel
theorem dX3_refusesVisitor_20 : decode cX3_refusesVisitor 20 = .ok (.ireturn, 1) := by decide +kernel
theorem dX3_refusesVisitor_21 : decode cX3_refusesVisitor 21 = .ok (.aload_n 0, 1) := by decide +kernel
theorem dX3_refusesVisitor_22 : decode cX3_refusesVisitor 22 = .ok (.getfield 12, 3) := by decide +kernel
theorem dX3_refusesVisitor_25 : decode cX3_refusesVisitor 25 = .ok (.getfield 213, 3) := by decide +kernel
theorem dX3_refusesVisitor_28 : decode cX3_refusesVisitor 28 = .ok (.bipush 12, 2) := by decide +kernel
theorem dX3_refusesVisitor_30 : decode cX3_refusesVisitor 30 = .ok (.if_icmp .ge 5, 3) := by decide +kernel
theorem dX3_refusesVisitor_33 : decode cX3_refusesVisitor 33 = .ok (.iconst 0, 1) := by decide +kernel
theorem dX3_refusesVisitor_34 : decode cX3_refusesVisitor 34 = .ok (.ireturn, 1) := by decide +kernel
theorem dX3_refusesVisitor_35 : decode cX3_refusesVisitor 35 = .ok (.aload_n 0, 1) := by decide +kernel
theorem dX3_refusesVisitor_36 : decode cX3_refusesVisitor 36 = .ok (.iconst 1, 1) := by decide +kernel
theorem dX3_refusesVisitor_37 : decode cX3_refusesVisitor 37 = .ok (.bipush 12, 2) := by decide +kernel
theorem dX3_refusesVisitor_39 : decode cX3_refusesVisitor 39 = .ok (.invokevirtual 100, 3) := by decide +kernel
theorem dX3_refusesVisitor_42 : decode cX3_refusesVisitor 42 = .ok (.iconst 1, 1) := by decide +kernel
theorem dX3_refusesVisitor_43 : decode cX3_refusesVisitor 43 = .ok (.ireturn, 1) := by decide +kernel
theorem dX3_tryLesson_0 : decode cX3_tryLesson 0 = .ok (.aload_n 0, 1) := by decide +kernel
theorem dX3_tryLesson_1 : decode cX3_tryLesson 1 = .ok (.getfield 40, 3) := by decide +kernel
theorem dX3_tryLesson_4 : decode cX3_tryLesson 4 = .ok (.aload_n 0, 1) := by decide +kernel
theorem dX3_tryLesson_5 : decode cX3_tryLesson 5 = .ok (.getfield 12, 3) := by decide +kernel
theorem dX3_tryLesson_8 : decode cX3_tryLesson 8 = .ok (.getfield 93, 3) := by decide +kernel
theorem dX3_tryLesson_11 : decode cX3_tryLesson 11 = .ok (.iload_n 1, 1) := by decide +kernel
theorem dX3_tryLesson_12 : decode cX3_tryLesson 12 = .ok (.aaload, 1) := by decide +kernel
theorem dX3_tryLesson_13 : decode cX3_tryLesson 13 = .ok (.invokevirtual 228, 3) := by decide +kernel
theorem dX3_tryLesson_16 : decode cX3_tryLesson 16 = .ok (.aload_n 0, 1) := by decide +kernel
theorem dX3_tryLesson_17 : decode cX3_tryLesson 17 = .ok (.getfield 40, 3) := by decide +kernel
theorem dX3_tryLesson_20 : decode cX3_tryLesson 20 = .ok (.aload_n 0, 1) := by decide +kernel
theorem dX3_tryLesson_21 : decode cX3_tryLesson 21 = .ok (.getfield 12, 3) := by decide +kernel
theorem dX3_tryLesson_24 : decode cX3_tryLesson 24 = .ok (.getfield 135, 3) := by decide +kernel
theorem dX3_tryLesson_27 : decode cX3_tryLesson 27 = .ok (.iload_n 2, 1) := by decide +kernel
theorem dX3_tryLesson_28 : decode cX3_tryLesson 28 = .ok (.iaload, 1) := by decide +kernel
theorem dX3_tryLesson_29 : decode cX3_tryLesson 29 = .ok (.aload_n 0, 1) := by decide +kernel
theorem dX3_tryLesson_30 : decode cX3_tryLesson 30 = .ok (.getfield 12, 3) := by decide +kernel
theorem dX3_tryLesson_33 : decode cX3_tryLesson 33 = .ok (.getfield 139, 3) := by decide +kernel
theorem dX3_tryLesson_36 : decode cX3_tryLesson 36 = .ok (.iload_n 2, 1) := by decide +kernel
theorem dX3_tryLesson_37 : decode cX3_tryLesson 37 = .ok (.baload, 1) := by decide +kernel
theorem dX3_tryLesson_38 : decode cX3_tryLesson 38 = .ok (.invokevirtual 377, 3) := by decide +kernel
theorem dX3_tryLesson_41 : decode cX3_tryLesson 41 = .ok (.istore_n 3, 1) := by decide +kernel
theorem dX3_tryLesson_42 : decode cX3_tryLesson 42 = .ok (.iload_n 3, 1) := by decide +kernel
theorem dX3_tryLesson_43 : decode cX3_tryLesson 43 = .ok (.iconst (-1), 1) := by decide +kernel
theorem dX3_tryLesson_44 : decode cX3_tryLesson 44 = .ok (.if_icmp .ne 9, 3) := by decide +kernel
theorem dX3_tryLesson_47 : decode cX3_tryLesson 47 = .ok (.aload_n 0, 1) := by decide +kernel
theorem dX3_tryLesson_48 : decode cX3_tryLesson 48 = .ok (.iconst 5, 1) := by decide +kernel
theorem dX3_tryLesson_49 : decode cX3_tryLesson 49 = .ok (.iload_n 1, 1) := by decide +kernel
theorem dX3_tryLesson_50 : decode cX3_tryLesson 50 = .ok (.invokevirtual 100, 3) := by decide +kernel
theorem dX3_tryLesson_53 : decode cX3_tryLesson 53 = .ok (.iload_n 3, 1) := by decide +kernel
theorem dX3_tryLesson_54 : decode cX3_tryLesson 54 = .ok (.ireturn, 1) := by decide +kernel
theorem dX3_tryDays_0 : decode cX3_tryDays 0 = .ok (.aload_n 0, 1) := by decide +kernel
theorem dX3_tryDays_1 : decode cX3_tryDays 1 = .ok (.getfield 12, 3) := by decide +kernel
theorem dX3_tryDays_4 : decode cX3_tryDays 4 = .ok (.getfield 213, 3) := by decide +kernel
theorem dX3_tryDays_7 : decode cX3_tryDays 7 = .ok (.ifCond .ne 17, 3) := by decide +kernel
theorem dX3_tryDays_10 : decode cX3_tryDays 10 = .ok (.aload_n 0, 1) := by decide +kernel
theorem dX3_tryDays_11 : decode cX3_tryDays 11 = .ok (.iconst 3, 1) := by decide +kernel
theorem dX3_tryDays_12 : decode cX3_tryDays 12 = .ok (.aload_n 0, 1) := by decide +kernel
theorem dX3_tryDays_13 : decode cX3_tryDays 13 = .ok (.getfield 12, 3) := by decide +kernel
theorem dX3_tryDays_16 : decode cX3_tryDays 16 = .ok (.getfield 256, 3) := by decide +kernel
theorem dX3_tryDays_19 : decode cX3_tryDays 19 = .ok (.invokevirtual 100, 3) := by decide +kernel
theorem dX3_tryDays_22 : decode cX3_tryDays 22 = .ok (.iconst (-1), 1) := by decide +kernel
theorem dX3_tryDays_23 : decode cX3_tryDays 23 = .ok (.ireturn, 1) := by decide +kernel
theorem dX3_tryDays_24 : decode cX3_tryDays 24 = .ok (.aload_n 0, 1) := by decide +kernel
theorem dX3_tryDays_25 : decode cX3_tryDays 25 = .ok (.getfield 40, 3) := by decide +kernel
theorem dX3_tryDays_28 : decode cX3_tryDays 28 = .ok (.aload_n 0, 1) := by decide +kernel
theorem dX3_tryDays_29 : decode cX3_tryDays 29 = .ok (.getfield 12, 3) := by decide +kernel
theorem dX3_tryDays_32 : decode cX3_tryDays 32 = .ok (.getfield 93, 3) := by decide +kernel
theorem dX3_tryDays_35 : decode cX3_tryDays 35 = .ok (.iload_n 1, 1) := by decide +kernel
theorem dX3_tryDays_36 : decode cX3_tryDays 36 = .ok (.aaload, 1) := by decide +kernel
theorem dX3_tryDays_37 : decode cX3_tryDays 37 = .ok (.invokevirtual 228, 3) := by decide +kernel
theorem dX3_tryDays_40 : decode cX3_tryDays 40 = .ok (.aload_n 0, 1) := by decide +kernel
theorem dX3_tryDays_41 : decode cX3_tryDays 41 = .ok (.getfield 12, 3) := by decide +kernel
theorem dX3_tryDays_44 : decode cX3_tryDays 44 = .ok (.aload_n 0, 1) := by decide +kernel
theorem dX3_tryDays_45 : decode cX3_tryDays 45 = .ok (.getfield 40, 3) := by decide +kernel
theorem dX3_tryDays_48 : decode cX3_tryDays 48 = .ok (.iload_n 2, 1) := by decide +kernel
theorem dX3_tryDays_49 : decode cX3_tryDays 49 = .ok (.invokevirtual 240, 3) := by decide +kernel
theorem dX3_tryDays_52 : decode cX3_tryDays 52 = .ok (.istore_n 3, 1) := by decide +kernel
theorem dX3_tryDays_53 : decode cX3_tryDays 53 = .ok (.iload_n 3, 1) := by decide +kernel
theorem dX3_tryDays_54 : decode cX3_tryDays 54 = .ok (.iconst (-1), 1) := by decide +kernel
theorem dX3_tryDays_55 : decode cX3_tryDays 55 = .ok (.if_icmp .ne 9, 3) := by decide +kernel
theorem dX3_tryDays_58 : decode cX3_tryDays 58 = .ok (.aload_n 0, 1) := by decide +kernel
theorem dX3_tryDays_59 : decode cX3_tryDays 59 = .ok (.iconst 5, 1) := by decide +kernel
theorem dX3_tryDays_60 : decode cX3_tryDays 60 = .ok (.iload_n 1, 1) := by decide +kernel
theorem dX3_tryDays_61 : decode cX3_tryDays 61 = .ok (.invokevirtual 100, 3) := by decide +kernel
theorem dX3_tryDays_64 : decode cX3_tryDays 64 = .ok (.iload_n 3, 1) := by decide +kernel
theorem dX3_tryDays_65 : decode cX3_tryDays 65 = .ok (.ireturn, 1) := by decide +kernel
theorem dX3_keep_0 : decode cX3_keep 0 = .ok (.aload_n 0, 1) := by decide +kernel
theorem dX3_keep_1 : decode cX3_keep 1 = .ok (.getfield 34, 3) := by decide +kernel
theorem dX3_keep_4 : decode cX3_keep 4 = .ok (.bipush 8, 2) := by decide +kernel
theorem dX3_keep_6 : decode cX3_keep 6 = .ok (.if_icmp .ne 26, 3) := by decide +kernel
theorem dX3_keep_9 : decode cX3_keep 9 = .ok (.aload_n 0, 1) := by decide +kernel
theorem dX3_keep_10 : decode cX3_keep 10 = .ok (.aload_n 0, 1) := by decide +kernel
theorem dX3_keep_11 : decode cX3_keep 11 = .ok (.getfield 30, 3) := by decide +kernel
theorem dX3_keep_14 : decode cX3_keep 14 = .ok (.iconst 1, 1) := by decide +kernel
theorem dX3_keep_15 : decode cX3_keep 15 = .ok (.iadd, 1) := by decide +kernel
theorem dX3_keep_16 : decode cX3_keep 16 = .ok (.bipush 8, 2) := by decide +kernel
theorem dX3_keep_18 : decode cX3_keep 18 = .ok (.irem, 1) := by decide +kernel
theorem dX3_keep_19 : decode cX3_keep 19 = .ok (.putfield 30, 3) := by decide +kernel
theorem dX3_keep_22 : decode cX3_keep 22 = .ok (.aload_n 0, 1) := by decide +kernel
theorem dX3_keep_23 : decode cX3_keep 23 = .ok (.dup, 1) := by decide +kernel
theorem dX3_keep_24 : decode cX3_keep 24 = .ok (.getfield 34, 3) := by decide +kernel
theorem dX3_keep_27 : decode cX3_keep 27 = .ok (.iconst 1, 1) := by decide +kernel
theorem dX3_keep_28 : decode cX3_keep 28 = .ok (.isub, 1) := by decide +kernel
theorem dX3_keep_29 : decode cX3_keep 29 = .ok (.putfield 34, 3) := by decide +kernel
theorem dX3_keep_32 : decode cX3_keep 32 = .ok (.aload_n 0, 1) := by decide +kernel
theorem dX3_keep_33 : decode cX3_keep 33 = .ok (.getfield 26, 3) := by decide +kernel
theorem dX3_keep_36 : decode cX3_keep 36 = .ok (.aload_n 0, 1) := by decide +kernel
theorem dX3_keep_37 : decode cX3_keep 37 = .ok (.getfield 30, 3) := by decide +kernel
theorem dX3_keep_40 : decode cX3_keep 40 = .ok (.aload_n 0, 1) := by decide +kernel
theorem dX3_keep_41 : decode cX3_keep 41 = .ok (.getfield 34, 3) := by decide +kernel
theorem dX3_keep_44 : decode cX3_keep 44 = .ok (.iadd, 1) := by decide +kernel
theorem dX3_keep_45 : decode cX3_keep 45 = .ok (.bipush 8, 2) := by decide +kernel
theorem dX3_keep_47 : decode cX3_keep 47 = .ok (.irem, 1) := by decide +kernel
theorem dX3_keep_48 : decode cX3_keep 48 = .ok (.aaload, 1) := by decide +kernel
theorem dX3_keep_49 : decode cX3_keep 49 = .ok (.aload_n 1, 1) := by decide +kernel
theorem dX3_keep_50 : decode cX3_keep 50 = .ok (.invokevirtual 304, 3) := by decide +kernel
theorem dX3_keep_53 : decode cX3_keep 53 = .ok (.aload_n 0, 1) := by decide +kernel
theorem dX3_keep_54 : decode cX3_keep 54 = .ok (.dup, 1) := by decide +kernel
theorem dX3_keep_55 : decode cX3_keep 55 = .ok (.getfield 34, 3) := by decide +kernel
theorem dX3_keep_58 : decode cX3_keep 58 = .ok (.iconst 1, 1) := by decide +kernel
theorem dX3_keep_59 : decode cX3_keep 59 = .ok (.iadd, 1) := by decide +kernel
theorem dX3_keep_60 : decode cX3_keep 60 = .ok (.putfield 34, 3) := by decide +kernel
theorem dX3_keep_63 : decode cX3_keep 63 = .ok (.return_, 1) := by decide +kernel
theorem dX3_carryOut_0 : decode cX3_carryOut 0 = .ok (.iload_n 1, 1) := by decide +kernel
theorem dX3_carryOut_1 : decode cX3_carryOut 1 = .ok (.bipush 103, 2) := by decide +kernel
theorem dX3_carryOut_3 : decode cX3_carryOut 3 = .ok (.if_icmp .ne 9, 3) := by decide +kernel
theorem dX3_carryOut_6 : decode cX3_carryOut 6 = .ok (.aload_n 0, 1) := by decide +kernel
theorem dX3_carryOut_7 : decode cX3_carryOut 7 = .ok (.iload_n 2, 1) := by decide +kernel
theorem dX3_carryOut_8 : decode cX3_carryOut 8 = .ok (.invokevirtual 380, 3) := by decide +kernel
theorem dX3_carryOut_11 : decode cX3_carryOut 11 = .ok (.ireturn, 1) := by decide +kernel
theorem dX3_carryOut_12 : decode cX3_carryOut 12 = .ok (.iload_n 1, 1) := by decide +kernel
theorem dX3_carryOut_13 : decode cX3_carryOut 13 = .ok (.bipush 120, 2) := by decide +kernel
theorem dX3_carryOut_15 : decode cX3_carryOut 15 = .ok (.if_icmp .ne 9, 3) := by decide +kernel
theorem dX3_carryOut_18 : decode cX3_carryOut 18 = .ok (.aload_n 0, 1) := by decide +kernel
theorem dX3_carryOut_19 : decode cX3_carryOut 19 = .ok (.iload_n 2, 1) := by decide +kernel
theorem dX3_carryOut_20 : decode cX3_carryOut 20 = .ok (.invokevirtual 383, 3) := by decide +kernel
theorem dX3_carryOut_23 : decode cX3_carryOut 23 = .ok (.ireturn, 1) := by decide +kernel
theorem dX3_carryOut_24 : decode cX3_carryOut 24 = .ok (.iload_n 1, 1) := by decide +kernel
theorem dX3_carryOut_25 : decode cX3_carryOut 25 = .ok (.bipush 116, 2) := by decide +kernel
theorem dX3_carryOut_27 : decode cX3_carryOut 27 = .ok (.if_icmp .ne 10, 3) := by decide +kernel
theorem dX3_carryOut_30 : decode cX3_carryOut 30 = .ok (.aload_n 0, 1) := by decide +kernel
theorem dX3_carryOut_31 : decode cX3_carryOut 31 = .ok (.iload_n 2, 1) := by decide +kernel
theorem dX3_carryOut_32 : decode cX3_carryOut 32 = .ok (.iload_n 3, 1) := by decide +kernel
theorem dX3_carryOut_33 : decode cX3_carryOut 33 = .ok (.invokevirtual 386, 3) := by decide +kernel
theorem dX3_carryOut_36 : decode cX3_carryOut 36 = .ok (.ireturn, 1) := by decide +kernel
theorem dX3_carryOut_37 : decode cX3_carryOut 37 = .ok (.iload_n 1, 1) := by decide +kernel
theorem dX3_carryOut_38 : decode cX3_carryOut 38 = .ok (.bipush 100, 2) := by decide +kernel
theorem dX3_carryOut_40 : decode cX3_carryOut 40 = .ok (.if_icmp .ne 9, 3) := by decide +kernel
theorem dX3_carryOut_43 : decode cX3_carryOut 43 = .ok (.aload_n 0, 1) := by decide +kernel
theorem dX3_carryOut_44 : decode cX3_carryOut 44 = .ok (.iload_n 2, 1) := by decide +kernel
theorem dX3_carryOut_45 : decode cX3_carryOut 45 = .ok (.invokevirtual 389, 3) := by decide +kernel
theorem dX3_carryOut_48 : decode cX3_carryOut 48 = .ok (.ireturn, 1) := by decide +kernel
theorem dX3_carryOut_49 : decode cX3_carryOut 49 = .ok (.aload_n 0, 1) := by decide +kernel
theorem dX3_carryOut_50 : decode cX3_carryOut 50 = .ok (.iload_n 2, 1) := by decide +kernel
theorem dX3_carryOut_51 : decode cX3_carryOut 51 = .ok (.iload_n 1, 1) := by decide +kernel
theorem dX3_carryOut_52 : decode cX3_carryOut 52 = .ok (.bipush 43, 2) := by decide +kernel
theorem dX3_carryOut_54 : decode cX3_carryOut 54 = .ok (.if_icmp .ne 7, 3) := by decide +kernel
theorem dX3_carryOut_57 : decode cX3_carryOut 57 = .ok (.iconst 1, 1) := by decide +kernel
theorem dX3_carryOut_58 : decode cX3_carryOut 58 = .ok (.goto 4, 3) := by decide +kernel
theorem dX3_carryOut_61 : decode cX3_carryOut 61 = .ok (.iconst 0, 1) := by decide +kernel
theorem dX3_carryOut_62 : decode cX3_carryOut 62 = .ok (.invokevirtual 392, 3) := by decide +kernel
theorem dX3_carryOut_65 : decode cX3_carryOut 65 = .ok (.ireturn, 1) := by decide +kernel
theorem dX3_orderGuard_0 : decode cX3_orderGuard 0 = .ok (.iload_n 1, 1) := by decide +kernel
theorem dX3_orderGuard_1 : decode cX3_orderGuard 1 = .ok (.invokestatic 363, 3) := by decide +kernel
theorem dX3_orderGuard_4 : decode cX3_orderGuard 4 = .ok (.ifCond .ne 6, 3) := by decide +kernel
theorem dX3_orderGuard_7 : decode cX3_orderGuard 7 = .ok (.bipush (-2), 2) := by decide +kernel
theorem dX3_orderGuard_9 : decode cX3_orderGuard 9 = .ok (.ireturn, 1) := by decide +kernel
theorem dX3_orderGuard_10 : decode cX3_orderGuard 10 = .ok (.aload_n 0, 1) := by decide +kernel
theorem dX3_orderGuard_11 : decode cX3_orderGuard 11 = .ok (.invokevirtual 71, 3) := by decide +kernel
theorem dX3_orderGuard_14 : decode cX3_orderGuard 14 = .ok (.ifCond .eq 5, 3) := by decide +kernel
theorem dX3_orderGuard_17 : decode cX3_orderGuard 17 = .ok (.iconst (-1), 1) := by decide +kernel
theorem dX3_orderGuard_18 : decode cX3_orderGuard 18 = .ok (.ireturn, 1) := by decide +kernel
theorem dX3_orderGuard_19 : decode cX3_orderGuard 19 = .ok (.aload_n 0, 1) := by decide +kernel
theorem dX3_orderGuard_20 : decode cX3_orderGuard 20 = .ok (.getfield 12, 3) := by decide +kernel
theorem dX3_orderGuard_23 : decode cX3_orderGuard 23 = .ok (.iload_n 1, 1) := by decide +kernel
theorem dX3_orderGuard_24 : decode cX3_orderGuard 24 = .ok (.invokevirtual 86, 3) := by decide +kernel
theorem dX3_orderGuard_27 : decode cX3_orderGuard 27 = .ok (.pop, 1) := by decide +kernel
theorem dX3_orderGuard_28 : decode cX3_orderGuard 28 = .ok (.iconst 0, 1) := by decide +kernel
theorem dX3_orderGuard_29 : decode cX3_orderGuard 29 = .ok (.ireturn, 1) := by decide +kernel
theorem dX3_orderVisitor_0 : decode cX3_orderVisitor 0 = .ok (.aload_n 0, 1) := by decide +kernel
theorem dX3_orderVisitor_1 : decode cX3_orderVisitor 1 = .ok (.iload_n 1, 1) := by decide +kernel
theorem dX3_orderVisitor_2 : decode cX3_orderVisitor 2 = .ok (.invokevirtual 119, 3) := by decide +kernel
theorem dX3_orderVisitor_5 : decode cX3_orderVisitor 5 = .ok (.ifCond .eq 5, 3) := by decide +kernel
theorem dX3_orderVisitor_8 : decode cX3_orderVisitor 8 = .ok (.iconst (-1), 1) := by decide +kernel
theorem dX3_orderVisitor_9 : decode cX3_orderVisitor 9 = .ok (.ireturn, 1) := by decide +kernel
theorem dX3_orderVisitor_10 : decode cX3_orderVisitor 10 = .ok (.aload_n 0, 1) := by decide +kernel
theorem dX3_orderVisitor_11 : decode cX3_orderVisitor 11 = .ok (.getfield 12, 3) := by decide +kernel
theorem dX3_orderVisitor_14 : decode cX3_orderVisitor 14 = .ok (.iload_n 1, 1) := by decide +kernel
theorem dX3_orderVisitor_15 : decode cX3_orderVisitor 15 = .ok (.iload_n 2, 1) := by decide +kernel
theorem dX3_orderVisitor_16 : decode cX3_orderVisitor 16 = .ok (.invokevirtual 125, 3) := by decide +kernel
theorem dX3_orderVisitor_19 : decode cX3_orderVisitor 19 = .ok (.pop, 1) := by decide +kernel
theorem dX3_orderVisitor_20 : decode cX3_orderVisitor 20 = .ok (.iconst 0, 1) := by decide +kernel
theorem dX3_orderVisitor_21 : decode cX3_orderVisitor 21 = .ok (.ireturn, 1) := by decide +kernel
theorem dX3_orderForgetting_0 : decode cX3_orderForgetting 0 = .ok (.aload_n 0, 1) := by decide +kernel
theorem dX3_orderForgetting_1 : decode cX3_orderForgetting 1 = .ok (.getfield 12, 3) := by decide +kernel
theorem dX3_orderForgetting_4 : decode cX3_orderForgetting 4 = .ok (.iload_n 1, 1) := by decide +kernel
theorem dX3_orderForgetting_5 : decode cX3_orderForgetting 5 = .ok (.invokevirtual 358, 3) := by decide +kernel
theorem dX3_orderForgetting_8 : decode cX3_orderForgetting 8 = .ok (.ifCond .ne 6, 3) := by decide +kernel
theorem dX3_orderForgetting_11 : decode cX3_orderForgetting 11 = .ok (.bipush (-2), 2) := by decide +kernel
theorem dX3_orderForgetting_13 : decode cX3_orderForgetting 13 = .ok (.ireturn, 1) := by decide +kernel
theorem dX3_orderForgetting_14 : decode cX3_orderForgetting 14 = .ok (.aload_n 0, 1) := by decide +kernel
theorem dX3_orderForgetting_15 : decode cX3_orderForgetting 15 = .ok (.getfield 12, 3) := by decide +kernel
theorem dX3_orderForgetting_18 : decode cX3_orderForgetting 18 = .ok (.iload_n 1, 1) := by decide +kernel
theorem dX3_orderForgetting_19 : decode cX3_orderForgetting 19 = .ok (.invokevirtual 132, 3) := by decide +kernel
theorem dX3_orderForgetting_22 : decode cX3_orderForgetting 22 = .ok (.pop, 1) := by decide +kernel
theorem dX3_orderForgetting_23 : decode cX3_orderForgetting 23 = .ok (.iconst 0, 1) := by decide +kernel
theorem dX3_orderForgetting_24 : decode cX3_orderForgetting 24 = .ok (.ireturn, 1) := by decide +kernel
theorem dX3_orderLesson_0 : decode cX3_orderLesson 0 = .ok (.aload_n 0, 1) := by decide +kernel
theorem dX3_orderLesson_1 : decode cX3_orderLesson 1 = .ok (.getfield 12, 3) := by decide +kernel
theorem dX3_orderLesson_4 : decode cX3_orderLesson 4 = .ok (.iload_n 1, 1) := by decide +kernel
theorem dX3_orderLesson_5 : decode cX3_orderLesson 5 = .ok (.invokevirtual 353, 3) := by decide +kernel
theorem dX3_orderLesson_8 : decode cX3_orderLesson 8 = .ok (.ifCond .eq 14, 3) := by decide +kernel
theorem dX3_orderLesson_11 : decode cX3_orderLesson 11 = .ok (.aload_n 0, 1) := by decide +kernel
theorem dX3_orderLesson_12 : decode cX3_orderLesson 12 = .ok (.getfield 12, 3) := by decide +kernel
theorem dX3_orderLesson_15 : decode cX3_orderLesson 15 = .ok (.iload_n 2, 1) := by decide +kernel
theorem dX3_orderLesson_16 : decode cX3_orderLesson 16 = .ok (.invokevirtual 358, 3) := by decide +kernel
theorem dX3_orderLesson_19 : decode cX3_orderLesson 19 = .ok (.ifCond .ne 6, 3) := by decide +kernel
theorem dX3_orderLesson_22 : decode cX3_orderLesson 22 = .ok (.bipush (-2), 2) := by decide +kernel
theorem dX3_orderLesson_24 : decode cX3_orderLesson 24 = .ok (.ireturn, 1) := by decide +kernel
theorem dX3_orderLesson_25 : decode cX3_orderLesson 25 = .ok (.aload_n 0, 1) := by decide +kernel
theorem dX3_orderLesson_26 : decode cX3_orderLesson 26 = .ok (.iload_n 1, 1) := by decide +kernel
theorem dX3_orderLesson_27 : decode cX3_orderLesson 27 = .ok (.iload_n 2, 1) := by decide +kernel
theorem dX3_orderLesson_28 : decode cX3_orderLesson 28 = .ok (.invokevirtual 222, 3) := by decide +kernel
theorem dX3_orderLesson_31 : decode cX3_orderLesson 31 = .ok (.iconst (-1), 1) := by decide +kernel
theorem dX3_orderLesson_32 : decode cX3_orderLesson 32 = .ok (.if_icmp .ne 5, 3) := by decide +kernel
theorem dX3_orderLesson_35 : decode cX3_orderLesson 35 = .ok (.iconst (-1), 1) := by decide +kernel
theorem dX3_orderLesson_36 : decode cX3_orderLesson 36 = .ok (.ireturn, 1) := by decide +kernel
theorem dX3_orderLesson_37 : decode cX3_orderLesson 37 = .ok (.aload_n 0, 1) := by decide +kernel
theorem dX3_orderLesson_38 : decode cX3_orderLesson 38 = .ok (.getfield 12, 3) := by decide +kernel
theorem dX3_orderLesson_41 : decode cX3_orderLesson 41 = .ok (.getfield 93, 3) := by decide +kernel
theorem dX3_orderLesson_44 : decode cX3_orderLesson 44 = .ok (.iload_n 1, 1) := by decide +kernel
theorem dX3_orderLesson_45 : decode cX3_orderLesson 45 = .ok (.aaload, 1) := by decide +kernel
theorem dX3_orderLesson_46 : decode cX3_orderLesson 46 = .ok (.aload_n 0, 1) := by decide +kernel
theorem dX3_orderLesson_47 : decode cX3_orderLesson 47 = .ok (.getfield 40, 3) := by decide +kernel
theorem dX3_orderLesson_50 : decode cX3_orderLesson 50 = .ok (.invokevirtual 228, 3) := by decide +kernel
theorem dX3_orderLesson_53 : decode cX3_orderLesson 53 = .ok (.iconst 0, 1) := by decide +kernel
theorem dX3_orderLesson_54 : decode cX3_orderLesson 54 = .ok (.ireturn, 1) := by decide +kernel
theorem dX3_orderDay_0 : decode cX3_orderDay 0 = .ok (.aload_n 0, 1) := by decide +kernel
theorem dX3_orderDay_1 : decode cX3_orderDay 1 = .ok (.getfield 12, 3) := by decide +kernel
theorem dX3_orderDay_4 : decode cX3_orderDay 4 = .ok (.iload_n 1, 1) := by decide +kernel
theorem dX3_orderDay_5 : decode cX3_orderDay 5 = .ok (.invokevirtual 353, 3) := by decide +kernel
theorem dX3_orderDay_8 : decode cX3_orderDay 8 = .ok (.ifCond .ne 6, 3) := by decide +kernel
theorem dX3_orderDay_11 : decode cX3_orderDay 11 = .ok (.bipush (-2), 2) := by decide +kernel
theorem dX3_orderDay_13 : decode cX3_orderDay 13 = .ok (.ireturn, 1) := by decide +kernel
theorem dX3_orderDay_14 : decode cX3_orderDay 14 = .ok (.aload_n 0, 1) := by decide +kernel
theorem dX3_orderDay_15 : decode cX3_orderDay 15 = .ok (.iload_n 1, 1) := by decide +kernel
theorem dX3_orderDay_16 : decode cX3_orderDay 16 = .ok (.iconst 1, 1) := by decide +kernel
theorem dX3_orderDay_17 : decode cX3_orderDay 17 = .ok (.invokevirtual 232, 3) := by decide +kernel
theorem dX3_orderDay_20 : decode cX3_orderDay 20 = .ok (.iconst (-1), 1) := by decide +kernel
theorem dX3_orderDay_21 : decode cX3_orderDay 21 = .ok (.if_icmp .ne 5, 3) := by decide +kernel
theorem dX3_orderDay_24 : decode cX3_orderDay 24 = .ok (.iconst (-1), 1) := by decide +kernel
theorem dX3_orderDay_25 : decode cX3_orderDay 25 = .ok (.ireturn, 1) := by decide +kernel
theorem dX3_orderDay_26 : decode cX3_orderDay 26 = .ok (.aload_n 0, 1) := by decide +kernel
theorem dX3_orderDay_27 : decode cX3_orderDay 27 = .ok (.getfield 12, 3) := by decide +kernel
theorem dX3_orderDay_30 : decode cX3_orderDay 30 = .ok (.getfield 93, 3) := by decide +kernel
theorem dX3_orderDay_33 : decode cX3_orderDay 33 = .ok (.iload_n 1, 1) := by decide +kernel
theorem dX3_orderDay_34 : decode cX3_orderDay 34 = .ok (.aaload, 1) := by decide +kernel
theorem dX3_orderDay_35 : decode cX3_orderDay 35 = .ok (.aload_n 0, 1) := by decide +kernel
theorem dX3_orderDay_36 : decode cX3_orderDay 36 = .ok (.getfield 40, 3) := by decide +kernel
theorem dX3_orderDay_39 : decode cX3_orderDay 39 = .ok (.invokevirtual 228, 3) := by decide +kernel
theorem dX3_orderDay_42 : decode cX3_orderDay 42 = .ok (.iconst 0, 1) := by decide +kernel
theorem dX3_orderDay_43 : decode cX3_orderDay 43 = .ok (.ireturn, 1) := by decide +kernel
theorem dX3_bitsOf_0 : decode cX3_bitsOf 0 = .ok (.fload_n 0, 1) := by decide +kernel
theorem dX3_bitsOf_1 : decode cX3_bitsOf 1 = .ok (.fconst 0, 1) := by decide +kernel
theorem dX3_bitsOf_2 : decode cX3_bitsOf 2 = .ok (.fcmp .l, 1) := by decide +kernel
theorem dX3_bitsOf_3 : decode cX3_bitsOf 3 = .ok (.ifCond .ne 5, 3) := by decide +kernel
theorem dX3_bitsOf_6 : decode cX3_bitsOf 6 = .ok (.iconst 0, 1) := by decide +kernel
theorem dX3_bitsOf_7 : decode cX3_bitsOf 7 = .ok (.ireturn, 1) := by decide +kernel
theorem dX3_bitsOf_8 : decode cX3_bitsOf 8 = .ok (.fload_n 0, 1) := by decide +kernel
theorem dX3_bitsOf_9 : decode cX3_bitsOf 9 = .ok (.fconst 0, 1) := by decide +kernel
theorem dX3_bitsOf_10 : decode cX3_bitsOf 10 = .ok (.fcmp .g, 1) := by decide +kernel
theorem dX3_bitsOf_11 : decode cX3_bitsOf 11 = .ok (.ifCond .ge 9, 3) := by decide +kernel
theorem dX3_bitsOf_14 : decode cX3_bitsOf 14 = .ok (.ldc_w 395, 3) := by decide +kernel
theorem dX3_bitsOf_17 : decode cX3_bitsOf 17 = .ok (.goto 4, 3) := by decide +kernel
theorem dX3_bitsOf_20 : decode cX3_bitsOf 20 = .ok (.iconst 0, 1) := by decide +kernel
theorem dX3_bitsOf_21 : decode cX3_bitsOf 21 = .ok (.istore_n 1, 1) := by decide +kernel
theorem dX3_bitsOf_22 : decode cX3_bitsOf 22 = .ok (.fload_n 0, 1) := by decide +kernel
theorem dX3_bitsOf_23 : decode cX3_bitsOf 23 = .ok (.fconst 0, 1) := by decide +kernel
theorem dX3_bitsOf_24 : decode cX3_bitsOf 24 = .ok (.fcmp .g, 1) := by decide +kernel
theorem dX3_bitsOf_25 : decode cX3_bitsOf 25 = .ok (.ifCond .ge 8, 3) := by decide +kernel
theorem dX3_bitsOf_28 : decode cX3_bitsOf 28 = .ok (.fload_n 0, 1) := by decide +kernel
theorem dX3_bitsOf_29 : decode cX3_bitsOf 29 = .ok (.fneg, 1) := by decide +kernel
theorem dX3_bitsOf_30 : decode cX3_bitsOf 30 = .ok (.goto 4, 3) := by decide +kernel
theorem dX3_bitsOf_33 : decode cX3_bitsOf 33 = .ok (.fload_n 0, 1) := by decide +kernel
theorem dX3_bitsOf_34 : decode cX3_bitsOf 34 = .ok (.fstore_n 2, 1) := by decide +kernel
theorem dX3_bitsOf_35 : decode cX3_bitsOf 35 = .ok (.bipush 127, 2) := by decide +kernel
theorem dX3_bitsOf_37 : decode cX3_bitsOf 37 = .ok (.istore_n 3, 1) := by decide +kernel
theorem dX3_bitsOf_38 : decode cX3_bitsOf 38 = .ok (.iconst 0, 1) := by decide +kernel
theorem dX3_bitsOf_39 : decode cX3_bitsOf 39 = .ok (.istore 4, 2) := by decide +kernel
theorem dX3_bitsOf_41 : decode cX3_bitsOf 41 = .ok (.iload 4, 2) := by decide +kernel
theorem dX3_bitsOf_43 : decode cX3_bitsOf 43 = .ok (.sipush 128, 3) := by decide +kernel
theorem dX3_bitsOf_46 : decode cX3_bitsOf 46 = .ok (.if_icmp .ge 22, 3) := by decide +kernel
theorem dX3_bitsOf_49 : decode cX3_bitsOf 49 = .ok (.fload_n 2, 1) := by decide +kernel
theorem dX3_bitsOf_50 : decode cX3_bitsOf 50 = .ok (.fconst 2, 1) := by decide +kernel
theorem dX3_bitsOf_51 : decode cX3_bitsOf 51 = .ok (.fcmp .l, 1) := by decide +kernel
theorem dX3_bitsOf_52 : decode cX3_bitsOf 52 = .ok (.ifCond .lt 16, 3) := by decide +kernel
theorem dX3_bitsOf_55 : decode cX3_bitsOf 55 = .ok (.fload_n 2, 1) := by decide +kernel
theorem dX3_bitsOf_56 : decode cX3_bitsOf 56 = .ok (.fconst 2, 1) := by decide +kernel
theorem dX3_bitsOf_57 : decode cX3_bitsOf 57 = .ok (.fdiv, 1) := by decide +kernel
theorem dX3_bitsOf_58 : decode cX3_bitsOf 58 = .ok (.fstore_n 2, 1) := by decide +kernel
theorem dX3_bitsOf_59 : decode cX3_bitsOf 59 = .ok (.iinc 3 1, 3) := by decide +kernel
theorem dX3_bitsOf_62 : decode cX3_bitsOf 62 = .ok (.iinc 4 1, 3) := by decide +kernel
theorem dX3_bitsOf_65 : decode cX3_bitsOf 65 = .ok (.goto (-24), 3) := by decide +kernel
theorem dX3_bitsOf_68 : decode cX3_bitsOf 68 = .ok (.iconst 0, 1) := by decide +kernel
theorem dX3_bitsOf_69 : decode cX3_bitsOf 69 = .ok (.istore 4, 2) := by decide +kernel
theorem dX3_bitsOf_71 : decode cX3_bitsOf 71 = .ok (.iload 4, 2) := by decide +kernel
theorem dX3_bitsOf_73 : decode cX3_bitsOf 73 = .ok (.sipush 128, 3) := by decide +kernel
theorem dX3_bitsOf_76 : decode cX3_bitsOf 76 = .ok (.if_icmp .ge 22, 3) := by decide +kernel
theorem dX3_bitsOf_79 : decode cX3_bitsOf 79 = .ok (.fload_n 2, 1) := by decide +kernel
theorem dX3_bitsOf_80 : decode cX3_bitsOf 80 = .ok (.fconst 1, 1) := by decide +kernel
theorem dX3_bitsOf_81 : decode cX3_bitsOf 81 = .ok (.fcmp .g, 1) := by decide +kernel
theorem dX3_bitsOf_82 : decode cX3_bitsOf 82 = .ok (.ifCond .ge 16, 3) := by decide +kernel
theorem dX3_bitsOf_85 : decode cX3_bitsOf 85 = .ok (.fload_n 2, 1) := by decide +kernel
theorem dX3_bitsOf_86 : decode cX3_bitsOf 86 = .ok (.fconst 2, 1) := by decide +kernel
theorem dX3_bitsOf_87 : decode cX3_bitsOf 87 = .ok (.fmul, 1) := by decide +kernel
theorem dX3_bitsOf_88 : decode cX3_bitsOf 88 = .ok (.fstore_n 2, 1) := by decide +kernel
theorem dX3_bitsOf_89 : decode cX3_bitsOf 89 = .ok (.iinc 3 (-1), 3) := by decide +kernel
theorem dX3_bitsOf_92 : decode cX3_bitsOf 92 = .ok (.iinc 4 1, 3) := by decide +kernel
theorem dX3_bitsOf_95 : decode cX3_bitsOf 95 = .ok (.goto (-24), 3) := by decide +kernel
theorem dX3_bitsOf_98 : decode cX3_bitsOf 98 = .ok (.iload_n 1, 1) := by decide +kernel
theorem dX3_bitsOf_99 : decode cX3_bitsOf 99 = .ok (.iload_n 3, 1) := by decide +kernel
theorem dX3_bitsOf_100 : decode cX3_bitsOf 100 = .ok (.bipush 23, 2) := by decide +kernel
theorem dX3_bitsOf_102 : decode cX3_bitsOf 102 = .ok (.ishl, 1) := by decide +kernel
theorem dX3_bitsOf_103 : decode cX3_bitsOf 103 = .ok (.ior, 1) := by decide +kernel
theorem dX3_bitsOf_104 : decode cX3_bitsOf 104 = .ok (.fload_n 2, 1) := by decide +kernel
theorem dX3_bitsOf_105 : decode cX3_bitsOf 105 = .ok (.fconst 1, 1) := by decide +kernel
theorem dX3_bitsOf_106 : decode cX3_bitsOf 106 = .ok (.fsub, 1) := by decide +kernel
theorem dX3_bitsOf_107 : decode cX3_bitsOf 107 = .ok (.ldc_w 396, 3) := by decide +kernel
theorem dX3_bitsOf_110 : decode cX3_bitsOf 110 = .ok (.fmul, 1) := by decide +kernel
theorem dX3_bitsOf_111 : decode cX3_bitsOf 111 = .ok (.f2i, 1) := by decide +kernel
theorem dX3_bitsOf_112 : decode cX3_bitsOf 112 = .ok (.ior, 1) := by decide +kernel
theorem dX3_bitsOf_113 : decode cX3_bitsOf 113 = .ok (.ireturn, 1) := by decide +kernel
theorem dX4_init_0 : decode cX4_init 0 = .ok (.aload_n 0, 1) := by decide +kernel
theorem dX4_init_1 : decode cX4_init 1 = .ok (.invokespecial 3, 3) := by decide +kernel
theorem dX4_init_4 : decode cX4_init 4 = .ok (.aload_n 0, 1) := by decide +kernel
theorem dX4_init_5 : decode cX4_init 5 = .ok (.sipush 134, 3) := by decide +kernel
theorem dX4_init_8 : decode cX4_init 8 = .ok (.newarray .int, 2) := by decide +kernel
theorem dX4_init_10 : decode cX4_init 10 = .ok (.putfield 9, 3) := by decide +kernel
theorem dX4_init_13 : decode cX4_init 13 = .ok (.aload_n 0, 1) := by decide +kernel
theorem dX4_init_14 : decode cX4_init 14 = .ok (.sipush 134, 3) := by decide +kernel
theorem dX4_init_17 : decode cX4_init 17 = .ok (.newarray .int, 2) := by decide +kernel
theorem dX4_init_19 : decode cX4_init 19 = .ok (.putfield 13, 3) := by decide +kernel
theorem dX4_init_22 : decode cX4_init 22 = .ok (.aload_n 0, 1) := by decide +kernel
theorem dX4_init_23 : decode cX4_init 23 = .ok (.sipush 134, 3) := by decide +kernel
theorem dX4_init_26 : decode cX4_init 26 = .ok (.newarray .int, 2) := by decide +kernel
theorem dX4_init_28 : decode cX4_init 28 = .ok (.putfield 16, 3) := by decide +kernel
theorem dX4_init_31 : decode cX4_init 31 = .ok (.aload_n 0, 1) := by decide +kernel
theorem dX4_init_32 : decode cX4_init 32 = .ok (.sipush 1072, 3) := by decide +kernel
theorem dX4_init_35 : decode cX4_init 35 = .ok (.newarray .int, 2) := by decide +kernel
theorem dX4_init_37 : decode cX4_init 37 = .ok (.putfield 19, 3) := by decide +kernel
theorem dX4_init_40 : decode cX4_init 40 = .ok (.aload_n 0, 1) := by decide +kernel
theorem dX4_init_41 : decode cX4_init 41 = .ok (.sipush 134, 3) := by decide +kernel
theorem dX4_init_44 : decode cX4_init 44 = .ok (.newarray .int, 2) := by decide +kernel
theorem dX4_init_46 : decode cX4_init 46 = .ok (.putfield 22, 3) := by decide +kernel
theorem dX4_init_49 : decode cX4_init 49 = .ok (.aload_n 0, 1) := by decide +kernel
theorem dX4_init_50 : decode cX4_init 50 = .ok (.bipush 100, 2) := by decide +kernel
theorem dX4_init_52 : decode cX4_init 52 = .ok (.newarray .char, 2) := by decide +kernel
theorem dX4_init_54 : decode cX4_init 54 = .ok (.putfield 25, 3) := by decide +kernel
theorem dX4_init_57 : decode cX4_init 57 = .ok (.aload_n 0, 1) := by decide +kernel
theorem dX4_init_58 : decode cX4_init 58 = .ok (.bipush 60, 2) := by decide +kernel
theorem dX4_init_60 : decode cX4_init 60 = .ok (.newarray .char, 2) := by decide +kernel
theorem dX4_init_62 : decode cX4_init 62 = .ok (.putfield 29, 3) := by decide +kernel
theorem dX4_init_65 : decode cX4_init 65 = .ok (.aload_n 0, 1) := by decide +kernel
theorem dX4_init_66 : decode cX4_init 66 = .ok (.iconst (-1), 1) := by decide +kernel
theorem dX4_init_67 : decode cX4_init 67 = .ok (.putfield 32, 3) := by decide +kernel
theorem dX4_init_70 : decode cX4_init 70 = .ok (.aload_n 0, 1) := by decide +kernel
theorem dX4_init_71 : decode cX4_init 71 = .ok (.sipush 180, 3) := by decide +kernel
theorem dX4_init_74 : decode cX4_init 74 = .ok (.newarray .int, 2) := by decide +kernel
theorem dX4_init_76 : decode cX4_init 76 = .ok (.putfield 36, 3) := by decide +kernel
theorem dX4_init_79 : decode cX4_init 79 = .ok (.return_, 1) := by decide +kernel
theorem dX4_thrown_0 : decode cX4_thrown 0 = .ok (.aload_n 0, 1) := by decide +kernel
theorem dX4_thrown_1 : decode cX4_thrown 1 = .ok (.getfield 39, 3) := by decide +kernel
theorem dX4_thrown_4 : decode cX4_thrown 4 = .ok (.ireturn, 1) := by decide +kernel
theorem dX4_in_0 : decode cX4_in 0 = .ok (.iload_n 0, 1) := by decide +kernel
theorem dX4_in_1 : decode cX4_in 1 = .ok (.iload_n 1, 1) := by decide +kernel
theorem dX4_in_2 : decode cX4_in 2 = .ok (.if_icmp .lt 12, 3) := by decide +kernel
theorem dX4_in_5 : decode cX4_in 5 = .ok (.iload_n 0, 1) := by decide +kernel
theorem dX4_in_6 : decode cX4_in 6 = .ok (.iload_n 2, 1) := by decide +kernel
theorem dX4_in_7 : decode cX4_in 7 = .ok (.if_icmp .gt 7, 3) := by decide +kernel
theorem dX4_in_10 : decode cX4_in 10 = .ok (.iconst 1, 1) := by decide +kernel
theorem dX4_in_11 : decode cX4_in 11 = .ok (.goto 4, 3) := by decide +kernel
theorem dX4_in_14 : decode cX4_in 14 = .ok (.iconst 0, 1) := by decide +kernel
theorem dX4_in_15 : decode cX4_in 15 = .ok (.ireturn, 1) := by decide +kernel
theorem dX4_keep_0 : decode cX4_keep 0 = .ok (.aload_n 0, 1) := by decide +kernel
theorem dX4_keep_1 : decode cX4_keep 1 = .ok (.iconst 0, 1) := by decide +kernel
theorem dX4_keep_2 : decode cX4_keep 2 = .ok (.putfield 39, 3) := by decide +kernel
theorem dX4_keep_5 : decode cX4_keep 5 = .ok (.aload_n 0, 1) := by decide +kernel
theorem dX4_keep_6 : decode cX4_keep 6 = .ok (.getfield 9, 3) := by decide +kernel
theorem dX4_keep_9 : decode cX4_keep 9 = .ok (.iconst 0, 1) := by decide +kernel
theorem dX4_keep_10 : decode cX4_keep 10 = .ok (.aload_n 0, 1) := by decide +kernel
theorem dX4_keep_11 : decode cX4_keep 11 = .ok (.getfield 13, 3) := by decide +kernel
theorem dX4_keep_14 : decode cX4_keep 14 = .ok (.iconst 0, 1) := by decide +kernel
theorem dX4_keep_15 : decode cX4_keep 15 = .ok (.sipush 134, 3) := by decide +kernel
theorem dX4_keep_18 : decode cX4_keep 18 = .ok (.invokestatic 42, 3) := by decide +kernel
theorem dX4_keep_21 : decode cX4_keep 21 = .ok (.return_, 1) := by decide +kernel
theorem dX4_ends_0 : decode cX4_ends 0 = .ok (.aload_n 0, 1) := by decide +kernel
theorem dX4_ends_1 : decode cX4_ends 1 = .ok (.getfield 39, 3) := by decide +kernel
theorem dX4_ends_4 : decode cX4_ends 4 = .ok (.ifCond .le 21, 3) := by decide +kernel
theorem dX4_ends_7 : decode cX4_ends 7 = .ok (.aload_n 0, 1) := by decide +kernel
theorem dX4_ends_8 : decode cX4_ends 8 = .ok (.getfield 13, 3) := by decide +kernel
theorem dX4_ends_11 : decode cX4_ends 11 = .ok (.iconst 0, 1) := by decide +kernel
theorem dX4_ends_12 : decode cX4_ends 12 = .ok (.aload_n 0, 1) := by decide +kernel
theorem dX4_ends_13 : decode cX4_ends 13 = .ok (.getfield 9, 3) := by decide +kernel
theorem dX4_ends_16 : decode cX4_ends 16 = .ok (.iconst 0, 1) := by decide +kernel
theorem dX4_ends_17 : decode cX4_ends 17 = .ok (.sipush 134, 3) := by decide +kernel
theorem dX4_ends_20 : decode cX4_ends 20 = .ok (.invokestatic 42, 3) := by decide +kernel
theorem dX4_ends_23 : decode cX4_ends 23 = .ok (.iconst 0, 1) := by decide +kernel
theorem dX4_ends_24 : decode cX4_ends 24 = .ok (.ireturn, 1) := by decide +kernel
theorem dX4_ends_25 : decode cX4_ends 25 = .ok (.aload_n 0, 1) := by decide +kernel
theorem dX4_ends_26 : decode cX4_ends 26 = .ok (.getfield 48, 3) := by decide +kernel
theorem dX4_ends_29 : decode cX4_ends 29 = .ok (.bipush 8, 2) := by decide +kernel
theorem dX4_ends_31 : decode cX4_ends 31 = .ok (.if_icmp .ne 31, 3) := by decide +kernel
theorem dX4_ends_34 : decode cX4_ends 34 = .ok (.aload_n 0, 1) := by decide +kernel
theorem dX4_ends_35 : decode cX4_ends 35 = .ok (.getfield 19, 3) := by decide +kernel
theorem dX4_ends_38 : decode cX4_ends 38 = .ok (.sipush 134, 3) := by decide +kernel
theorem dX4_ends_41 : decode cX4_ends 41 = .ok (.aload_n 0, 1) := by decide +kernel
theorem dX4_ends_42 : decode cX4_ends 42 = .ok (.getfield 19, 3) := by decide +kernel
theorem dX4_ends_45 : decode cX4_ends 45 = .ok (.iconst 0, 1) := by decide +kernel
theorem dX4_ends_46 : decode cX4_ends 46 = .ok (.sipush 938, 3) := by decide +kernel
theorem dX4_ends_49 : decode cX4_ends 49 = .ok (.invokestatic 42, 3) := by decide +kernel
theorem dX4_ends_52 : decode cX4_ends 52 = .ok (.aload_n 0, 1) := by decide +kernel
theorem dX4_ends_53 : decode cX4_ends 53 = .ok (.dup, 1) := by decide +kernel
theorem dX4_ends_54 : decode cX4_ends 54 = .ok (.getfield 48, 3) := by decide +kernel
theorem dX4_ends_57 : decode cX4_ends 57 = .ok (.iconst 1, 1) := by decide +kernel
theorem dX4_ends_58 : decode cX4_ends 58 = .ok (.isub, 1) := by decide +kernel
theorem dX4_ends_59 : decode cX4_ends 59 = .ok (.putfield 48, 3) := by decide +kernel
theorem dX4_ends_62 : decode cX4_ends 62 = .ok (.aload_n 0, 1) := by decide +kernel
theorem dX4_ends_63 : decode cX4_ends 63 = .ok (.getfield 13, 3) := by decide +kernel
theorem dX4_ends_66 : decode cX4_ends 66 = .ok (.iconst 0, 1) := by decide +kernel
theorem dX4_ends_67 : decode cX4_ends 67 = .ok (.aload_n 0, 1) := by decide +kernel
theorem dX4_ends_68 : decode cX4_ends 68 = .ok (.getfield 19, 3) := by decide +kernel
theorem dX4_ends_71 : decode cX4_ends 71 = .ok (.sipush 134, 3) := by decide +kernel
theorem dX4_ends_74 : decode cX4_ends 74 = .ok (.aload_n 0, 1) := by decide +kernel
theorem dX4_ends_75 : decode cX4_ends 75 = .ok (.getfield 48, 3) := by decide +kernel
theorem dX4_ends_78 : decode cX4_ends 78 = .ok (.imul, 1) := by decide +kernel
theorem dX4_ends_79 : decode cX4_ends 79 = .ok (.sipush 134, 3) := by decide +kernel
theorem dX4_ends_82 : decode cX4_ends 82 = .ok (.invokestatic 42, 3) := by decide +kernel
theorem dX4_ends_85 : decode cX4_ends 85 = .ok (.aload_n 0, 1) := by decide +kernel
theorem dX4_ends_86 : decode cX4_ends 86 = .ok (.dup, 1) := by decide +kernel
theorem dX4_ends_87 : decode cX4_ends 87 = .ok (.getfield 48, 3) := by decide +kernel
theorem dX4_ends_90 : decode cX4_ends 90 = .ok (.iconst 1, 1) := by decide +kernel
theorem dX4_ends_91 : decode cX4_ends 91 = .ok (.iadd, 1) := by decide +kernel
theorem dX4_ends_92 : decode cX4_ends 92 = .ok (.putfield 48, 3) := by decide +kernel
theorem dX4_ends_95 : decode cX4_ends 95 = .ok (.iload_n 1, 1) := by decide +kernel
theorem dX4_ends_96 : decode cX4_ends 96 = .ok (.ireturn, 1) := by decide +kernel
theorem dX4_fails_0 : decode cX4_fails 0 = .ok (.aload_n 0, 1) := by decide +kernel
theorem dX4_fails_1 : decode cX4_fails 1 = .ok (.iload_n 1, 1) := by decide +kernel
theorem dX4_fails_2 : decode cX4_fails 2 = .ok (.putfield 39, 3) := by decide +kernel
theorem dX4_fails_5 : decode cX4_fails 5 = .ok (.iconst 0, 1) := by decide +kernel
theorem dX4_fails_6 : decode cX4_fails 6 = .ok (.ireturn, 1) := by decide +kernel
theorem dX4_refuse_0 : decode cX4_refuse 0 = .ok (.aload_n 0, 1) := by decide +kernel
theorem dX4_refuse_1 : decode cX4_refuse 1 = .ok (.iload_n 1, 1) := by decide +kernel
theorem dX4_refuse_2 : decode cX4_refuse 2 = .ok (.putfield 39, 3) := by decide +kernel
theorem dX4_refuse_5 : decode cX4_refuse 5 = .ok (.aload_n 0, 1) := by decide +kernel
theorem dX4_refuse_6 : decode cX4_refuse 6 = .ok (.iconst 1, 1) := by decide +kernel
theorem dX4_refuse_7 : decode cX4_refuse 7 = .ok (.putfield 51, 3) := by decide +kernel
theorem dX4_refuse_10 : decode cX4_refuse 10 = .ok (.aload_n 0, 1) := by decide +kernel
theorem dX4_refuse_11 : decode cX4_refuse 11 = .ok (.iload_n 2, 1) := by decide +kernel
theorem dX4_refuse_12 : decode cX4_refuse 12 = .ok (.putfield 55, 3) := by decide +kernel
theorem dX4_refuse_15 : decode cX4_refuse 15 = .ok (.aload_n 0, 1) := by decide +kernel
theorem dX4_refuse_16 : decode cX4_refuse 16 = .ok (.iload_n 3, 1) := by decide +kernel
theorem dX4_refuse_17 : decode cX4_refuse 17 = .ok (.putfield 58, 3) := by decide +kernel
theorem dX4_refuse_20 : decode cX4_refuse 20 = .ok (.iconst 0, 1) := by decide +kernel
theorem dX4_refuse_21 : decode cX4_refuse 21 = .ok (.ireturn, 1) := by decide +kernel
theorem dX4_refusal_0 : decode cX4_refusal 0 = .ok (.aload_n 0, 1) := by decide +kernel
theorem dX4_refusal_1 : decode cX4_refusal 1 = .ok (.aload_n 0, 1) := by decide +kernel
theorem dX4_refusal_2 : decode cX4_refusal 2 = .ok (.getfield 55, 3) := by decide +kernel
theorem dX4_refusal_5 : decode cX4_refusal 5 = .ok (.ifCond .ne 7, 3) := by decide +kernel
theorem dX4_refusal_8 : decode cX4_refusal 8 = .ok (.iconst 1, 1) := by decide +kernel
theorem dX4_refusal_9 : decode cX4_refusal 9 = .ok (.goto 4, 3) := by decide +kernel
theorem dX4_refusal_12 : decode cX4_refusal 12 = .ok (.iconst 0, 1) := by decide +kernel
theorem dX4_refusal_13 : decode cX4_refusal 13 = .ok (.putfield 39, 3) := by decide +kernel
theorem dX4_refusal_16 : decode cX4_refusal 16 = .ok (.aload_n 0, 1) := by decide +kernel
theorem dX4_refusal_17 : decode cX4_refusal 17 = .ok (.getfield 39, 3) := by decide +kernel
theorem dX4_refusal_20 : decode cX4_refusal 20 = .ok (.ifCond .le 7, 3) := by decide +kernel
theorem dX4_refusal_23 : decode cX4_refusal 23 = .ok (.iconst 0, 1) := by decide +kernel
theorem dX4_refusal_24 : decode cX4_refusal 24 = .ok (.goto 18, 3) := by decide +kernel
theorem dX4_refusal_27 : decode cX4_refusal 27 = .ok (.iload_n 1, 1) := by decide +kernel
theorem dX4_refusal_28 : decode cX4_refusal 28 = .ok (.ifCond .eq 10, 3) := by decide +kernel
theorem dX4_refusal_31 : decode cX4_refusal 31 = .ok (.aload_n 0, 1) := by decide +kernel
theorem dX4_refusal_32 : decode cX4_refusal 32 = .ok (.getfield 58, 3) := by decide +kernel
theorem dX4_refusal_35 : decode cX4_refusal 35 = .ok (.goto 7, 3) := by decide +kernel
theorem dX4_refusal_38 : decode cX4_refusal 38 = .ok (.aload_n 0, 1) := by decide +kernel
theorem dX4_refusal_39 : decode cX4_refusal 39 = .ok (.getfield 55, 3) := by decide +kernel
theorem dX4_refusal_42 : decode cX4_refusal 42 = .ok (.ireturn, 1) := by decide +kernel
theorem dX4_isGuard_0 : decode cX4_isGuard 0 = .ok (.iload_n 1, 1) := by decide +kernel
theorem dX4_isGuard_1 : decode cX4_isGuard 1 = .ok (.iconst 0, 1) := by decide +kernel
theorem dX4_isGuard_2 : decode cX4_isGuard 2 = .ok (.aload_n 0, 1) := by decide +kernel
theorem dX4_isGuard_3 : decode cX4_isGuard 3 = .ok (.getfield 9, 3) := by decide +kernel
theorem dX4_isGuard_6 : decode cX4_isGuard 6 = .ok (.iconst 0, 1) := by decide +kernel
theorem dX4_isGuard_7 : decode cX4_isGuard 7 = .ok (.iaload, 1) := by decide +kernel
theorem dX4_isGuard_8 : decode cX4_isGuard 8 = .ok (.iconst 1, 1) := by decide +kernel
theorem dX4_isGuard_9 : decode cX4_isGuard 9 = .ok (.isub, 1) := by decide +kernel
theorem dX4_isGuard_10 : decode cX4_isGuard 10 = .ok (.invokestatic 61, 3) := by decide +kernel
theorem dX4_isGuard_13 : decode cX4_isGuard 13 = .ok (.ireturn, 1) := by decide +kernel
theorem dX4_isVisitor_0 : decode cX4_isVisitor 0 = .ok (.iload_n 1, 1) := by decide +kernel
theorem dX4_isVisitor_1 : decode cX4_isVisitor 1 = .ok (.iconst 0, 1) := by decide +kernel
theorem dX4_isVisitor_2 : decode cX4_isVisitor 2 = .ok (.aload_n 0, 1) := by decide +kernel
theorem dX4_isVisitor_3 : decode cX4_isVisitor 3 = .ok (.getfield 9, 3) := by decide +kernel
theorem dX4_isVisitor_6 : decode cX4_isVisitor 6 = .ok (.iconst 1, 1) := by decide +kernel
theorem dX4_isVisitor_7 : decode cX4_isVisitor 7 = .ok (.iaload, 1) := by decide +kernel
theorem dX4_isVisitor_8 : decode cX4_isVisitor 8 = .ok (.iconst 1, 1) := by decide +kernel
theorem dX4_isVisitor_9 : decode cX4_isVisitor 9 = .ok (.isub, 1) := by decide +kernel
theorem dX4_isVisitor_10 : decode cX4_isVisitor 10 = .ok (.invokestatic 61, 3) := by decide +kernel
theorem dX4_isVisitor_13 : decode cX4_isVisitor 13 = .ok (.ireturn, 1) := by decide +kernel
theorem dX4_isSet_0 : decode cX4_isSet 0 = .ok (.iload_n 0, 1) := by decide +kernel
theorem dX4_isSet_1 : decode cX4_isSet 1 = .ok (.iconst 1, 1) := by decide +kernel
theorem dX4_isSet_2 : decode cX4_isSet 2 = .ok (.sipush 1023, 3) := by decide +kernel
theorem dX4_isSet_5 : decode cX4_isSet 5 = .ok (.invokestatic 61, 3) := by decide +kernel
theorem dX4_isSet_8 : decode cX4_isSet 8 = .ok (.ireturn, 1) := by decide +kernel
theorem dX4_at_0 : decode cX4_at 0 = .ok (.bipush 26, 2) := by decide +kernel
theorem dX4_at_2 : decode cX4_at 2 = .ok (.bipush 27, 2) := by decide +kernel
theorem dX4_at_4 : decode cX4_at 4 = .ok (.iload_n 0, 1) := by decide +kernel
theorem dX4_at_5 : decode cX4_at 5 = .ok (.imul, 1) := by decide +kernel
theorem dX4_at_6 : decode cX4_at 6 = .ok (.iadd, 1) := by decide +kernel
theorem dX4_at_7 : decode cX4_at 7 = .ok (.iload_n 1, 1) := by decide +kernel
theorem dX4_at_8 : decode cX4_at 8 = .ok (.iadd, 1) := by decide +kernel
theorem dX4_at_9 : decode cX4_at 9 = .ok (.ireturn, 1) := by decide +kernel
theorem dX4_badges_0 : decode cX4_badges 0 = .ok (.aload_n 0, 1) := by decide +kernel
theorem dX4_badges_1 : decode cX4_badges 1 = .ok (.getfield 9, 3) := by decide +kernel
theorem dX4_badges_4 : decode cX4_badges 4 = .ok (.iconst 2, 1) := by decide +kernel
theorem dX4_badges_5 : decode cX4_badges 5 = .ok (.iconst 2, 1) := by decide +kernel
theorem dX4_badges_6 : decode cX4_badges 6 = .ok (.iload_n 1, 1) := by decide +kernel
theorem dX4_badges_7 : decode cX4_badges 7 = .ok (.imul, 1) := by decide +kernel
theorem dX4_badges_8 : decode cX4_badges 8 = .ok (.iadd, 1) := by decide +kernel
theorem dX4_badges_9 : decode cX4_badges 9 = .ok (.iaload, 1) := by decide +kernel
theorem dX4_badges_10 : decode cX4_badges 10 = .ok (.ireturn, 1) := by decide +kernel
theorem dX4_isFriend_0 : decode cX4_isFriend 0 = .ok (.aload_n 0, 1) := by decide +kernel
theorem dX4_isFriend_1 : decode cX4_isFriend 1 = .ok (.getfield 9, 3) := by decide +kernel
theorem dX4_isFriend_4 : decode cX4_isFriend 4 = .ok (.iconst 2, 1) := by decide +kernel
theorem dX4_isFriend_5 : decode cX4_isFriend 5 = .ok (.iconst 2, 1) := by decide +kernel
theorem dX4_isFriend_6 : decode cX4_isFriend 6 = .ok (.iload_n 1, 1) := by decide +kernel
theorem dX4_isFriend_7 : decode cX4_isFriend 7 = .ok (.imul, 1) := by decide +kernel
theorem dX4_isFriend_8 : decode cX4_isFriend 8 = .ok (.iadd, 1) := by decide +kernel
theorem dX4_isFriend_9 : decode cX4_isFriend 9 = .ok (.iconst 1, 1) := by decide +kernel
theorem dX4_isFriend_10 : decode cX4_isFriend 10 = .ok (.iadd, 1) := by decide +kernel
theorem dX4_isFriend_11 : decode cX4_isFriend 11 = .ok (.iaload, 1) := by decide +kernel
theorem dX4_isFriend_12 : decode cX4_isFriend 12 = .ok (.iconst 1, 1) := by decide +kernel
theorem dX4_isFriend_13 : decode cX4_isFriend 13 = .ok (.if_icmp .ne 7, 3) := by decide +kernel
theorem dX4_isFriend_16 : decode cX4_isFriend 16 = .ok (.iconst 1, 1) := by decide +kernel
theorem dX4_isFriend_17 : decode cX4_isFriend 17 = .ok (.goto 4, 3) := by decide +kernel
theorem dX4_isFriend_20 : decode cX4_isFriend 20 = .ok (.iconst 0, 1) := by decide +kernel
theorem dX4_isFriend_21 : decode cX4_isFriend 21 = .ok (.ireturn, 1) := by decide +kernel
theorem dX4_doGuard_0 : decode cX4_doGuard 0 = .ok (.aload_n 0, 1) := by decide +kernel
theorem dX4_doGuard_1 : decode cX4_doGuard 1 = .ok (.getfield 9, 3) := by decide +kernel
theorem dX4_doGuard_4 : decode cX4_doGuard 4 = .ok (.iconst 0, 1) := by decide +kernel
theorem dX4_doGuard_5 : decode cX4_doGuard 5 = .ok (.iaload, 1) := by decide +kernel
theorem dX4_doGuard_6 : decode cX4_doGuard 6 = .ok (.istore_n 2, 1) := by decide +kernel
theorem dX4_doGuard_7 : decode cX4_doGuard 7 = .ok (.iload_n 1, 1) := by decide +kernel
theorem dX4_doGuard_8 : decode cX4_doGuard 8 = .ok (.iconst 1, 1) := by decide +kernel
theorem dX4_doGuard_9 : decode cX4_doGuard 9 = .ok (.bipush 64, 2) := by decide +kernel
theorem dX4_doGuard_11 : decode cX4_doGuard 11 = .ok (.invokestatic 61, 3) := by decide +kernel
theorem dX4_doGuard_14 : decode cX4_doGuard 14 = .ok (.ifCond .ne 9, 3) := by decide +kernel
theorem dX4_doGuard_17 : decode cX4_doGuard 17 = .ok (.aload_n 0, 1) := by decide +kernel
theorem dX4_doGuard_18 : decode cX4_doGuard 18 = .ok (.iconst 1, 1) := by decide +kernel
theorem dX4_doGuard_19 : decode cX4_doGuard 19 = .ok (.invokevirtual 65, 3) := by decide +kernel
theorem dX4_doGuard_22 : decode cX4_doGuard 22 = .ok (.ireturn, 1) := by decide +kernel
theorem dX4_doGuard_23 : decode cX4_doGuard 23 = .ok (.iload_n 2, 1) := by decide +kernel
theorem dX4_doGuard_24 : decode cX4_doGuard 24 = .ok (.iconst 4, 1) := by decide +kernel
theorem dX4_doGuard_25 : decode cX4_doGuard 25 = .ok (.if_icmp .ne 11, 3) := by decide +kernel
theorem dX4_doGuard_28 : decode cX4_doGuard 28 = .ok (.aload_n 0, 1) := by decide +kernel
theorem dX4_doGuard_29 : decode cX4_doGuard 29 = .ok (.iconst 2, 1) := by decide +kernel
theorem dX4_doGuard_30 : decode cX4_doGuard 30 = .ok (.iconst 1, 1) := by decide +kernel
theorem dX4_doGuard_31 : decode cX4_doGuard 31 = .ok (.iconst 4, 1) := by decide +kernel
theorem dX4_doGuard_32 : decode cX4_doGuard 32 = .ok (.invokevirtual 69, 3) := by decide +kernel
theorem dX4_doGuard_35 : decode cX4_doGuard 35 = .ok (.ireturn, 1) := by decide +kernel
theorem dX4_doGuard_36 : decode cX4_doGuard 36 = .ok (.iconst 0, 1) := by decide +kernel
theorem dX4_doGuard_37 : decode cX4_doGuard 37 = .ok (.istore_n 3, 1) := by decide +kernel
theorem dX4_doGuard_38 : decode cX4_doGuard 38 = .ok (.iload_n 3, 1) := by decide +kernel
theorem dX4_doGuard_39 : decode cX4_doGuard 39 = .ok (.bipush 27, 2) := by decide +kernel
theorem dX4_doGuard_41 : decode cX4_doGuard 41 = .ok (.if_icmp .ge 28, 3) := by decide +kernel
theorem dX4_doGuard_44 : decode cX4_doGuard 44 = .ok (.aload_n 0, 1) := by decide +kernel
theorem dX4_doGuard_45 : decode cX4_doGuard 45 = .ok (.getfield 9, 3) := by decide +kernel
theorem dX4_doGuard_48 : decode cX4_doGuard 48 = .ok (.iload_n 2, 1) := by decide +kernel
theorem dX4_doGuard_49 : decode cX4_doGuard 49 = .ok (.iload_n 3, 1) := by decide +kernel
theorem dX4_doGuard_50 : decode cX4_doGuard 50 = .ok (.invokestatic 73, 3) := by decide +kernel
theorem dX4_doGuard_53 : decode cX4_doGuard 53 = .ok (.iload_n 3, 1) := by decide +kernel
theorem dX4_doGuard_54 : decode cX4_doGuard 54 = .ok (.ifCond .ne 7, 3) := by decide +kernel
theorem dX4_doGuard_57 : decode cX4_doGuard 57 = .ok (.iload_n 1, 1) := by decide +kernel
theorem dX4_doGuard_58 : decode cX4_doGuard 58 = .ok (.goto 4, 3) := by decide +kernel
theorem dX4_doGuard_61 : decode cX4_doGuard 61 = .ok (.iconst 0, 1) := by decide +kernel
theorem dX4_doGuard_62 : decode cX4_doGuard 62 = .ok (.iastore, 1) := by decide +kernel
theorem dX4_doGuard_63 : decode cX4_doGuard 63 = .ok (.iinc 3 1, 3) := by decide +kernel
theorem dX4_doGuard_66 : decode cX4_doGuard 66 = .ok (.goto (-28), 3) := by decide +kernel
theorem dX4_doGuard_69 : decode cX4_doGuard 69 = .ok (.aload_n 0, 1) := by decide +kernel
theorem dX4_doGuard_70 : decode cX4_doGuard 70 = .ok (.getfield 9, 3) := by decide +kernel
theorem dX4_doGuard_73 : decode cX4_doGuard 73 = .ok (.iconst 0, 1) := by decide +kernel
theorem dX4_doGuard_74 : decode cX4_doGuard 74 = .ok (.dup2, 1) := by decide +kernel
theorem dX4_doGuard_75 : decode cX4_doGuard 75 = .ok (.iaload, 1) := by decide +kernel
theorem dX4_doGuard_76 : decode cX4_doGuard 76 = .ok (.iconst 1, 1) := by decide +kernel
theorem dX4_doGuard_77 : decode cX4_doGuard 77 = .ok (.iadd, 1) := by decide +kernel
theorem dX4_doGuard_78 : decode cX4_doGuard 78 = .ok (.iastore, 1) := by decide +kernel
theorem dX4_doGuard_79 : decode cX4_doGuard 79 = .ok (.iload_n 2, 1) := by decide +kernel
theorem dX4_doGuard_80 : decode cX4_doGuard 80 = .ok (.ireturn, 1) := by decide +kernel
theorem dX4_guard_0 : decode cX4_guard 0 = .ok (.aload_n 0, 1) := by decide +kernel
theorem dX4_guard_1 : decode cX4_guard 1 = .ok (.invokevirtual 77, 3) := by decide +kernel
theorem dX4_guard_4 : decode cX4_guard 4 = .ok (.aload_n 0, 1) := by decide +kernel
theorem dX4_guard_5 : decode cX4_guard 5 = .ok (.aload_n 0, 1) := by decide +kernel
theorem dX4_guard_6 : decode cX4_guard 6 = .ok (.iload_n 1, 1) := by decide +kernel
theorem dX4_guard_7 : decode cX4_guard 7 = .ok (.invokevirtual 80, 3) := by decide +kernel
theorem dX4_guard_10 : decode cX4_guard 10 = .ok (.invokevirtual 83, 3) := by decide +kernel
theorem dX4_guard_13 : decode cX4_guard 13 = .ok (.ireturn, 1) := by decide +kernel
theorem dX4_sets_0 : decode cX4_sets 0 = .ok (.aload_n 0, 1) := by decide +kernel
theorem dX4_sets_1 : decode cX4_sets 1 = .ok (.iload_n 1, 1) := by decide +kernel
theorem dX4_sets_2 : decode cX4_sets 2 = .ok (.invokevirtual 86, 3) := by decide +kernel
theorem dX4_sets_5 : decode cX4_sets 5 = .ok (.ifCond .eq 8, 3) := by decide +kernel
theorem dX4_sets_8 : decode cX4_sets 8 = .ok (.iload 4, 2) := by decide +kernel
theorem dX4_sets_10 : decode cX4_sets 10 = .ok (.ifCond .ne 21, 3) := by decide +kernel
theorem dX4_sets_13 : decode cX4_sets 13 = .ok (.aload_n 0, 1) := by decide +kernel
theorem dX4_sets_14 : decode cX4_sets 14 = .ok (.aload_n 0, 1) := by decide +kernel
theorem dX4_sets_15 : decode cX4_sets 15 = .ok (.iload_n 1, 1) := by decide +kernel
theorem dX4_sets_16 : decode cX4_sets 16 = .ok (.invokevirtual 86, 3) := by decide +kernel
theorem dX4_sets_19 : decode cX4_sets 19 = .ok (.ifCond .eq 7, 3) := by decide +kernel
theorem dX4_sets_22 : decode cX4_sets 22 = .ok (.iconst 2, 1) := by decide +kernel
theorem dX4_sets_23 : decode cX4_sets 23 = .ok (.goto 4, 3) := by decide +kernel
theorem dX4_sets_26 : decode cX4_sets 26 = .ok (.iconst 1, 1) := by decide +kernel
theorem dX4_sets_27 : decode cX4_sets 27 = .ok (.invokevirtual 65, 3) := by decide +kernel
theorem dX4_sets_30 : decode cX4_sets 30 = .ok (.ireturn, 1) := by decide +kernel
theorem dX4_sets_31 : decode cX4_sets 31 = .ok (.aload_n 0, 1) := by decide +kernel
theorem dX4_sets_32 : decode cX4_sets 32 = .ok (.getfield 9, 3) := by decide +kernel
theorem dX4_sets_35 : decode cX4_sets 35 = .ok (.iload_n 1, 1) := by decide +kernel
theorem dX4_sets_36 : decode cX4_sets 36 = .ok (.iload_n 2, 1) := by decide +kernel
theorem dX4_sets_37 : decode cX4_sets 37 = .ok (.invokestatic 73, 3) := by decide +kernel
theorem dX4_sets_40 : decode cX4_sets 40 = .ok (.iaload, 1) := by decide +kernel
theorem dX4_sets_41 : decode cX4_sets 41 = .ok (.istore 5, 2) := by decide +kernel
theorem dX4_sets_43 : decode cX4_sets 43 = .ok (.iload 5, 2) := by decide +kernel
theorem dX4_sets_45 : decode cX4_sets 45 = .ok (.iload_n 3, 1) := by decide +kernel
theorem dX4_sets_46 : decode cX4_sets 46 = .ok (.if_icmp .ne 11, 3) := by decide +kernel
theorem dX4_sets_49 : decode cX4_sets 49 = .ok (.aload_n 0, 1) := by decide +kernel
theorem dX4_sets_50 : decode cX4_sets 50 = .ok (.iconst 3, 1) := by decide +kernel
theorem dX4_sets_51 : decode cX4_sets 51 = .ok (.iconst 4, 1) := by decide +kernel
theorem dX4_sets_52 : decode cX4_sets 52 = .ok (.iload_n 3, 1) := by decide +kernel
theorem dX4_sets_53 : decode cX4_sets 53 = .ok (.invokevirtual 69, 3) := by decide +kernel
theorem dX4_sets_56 : decode cX4_sets 56 = .ok (.ireturn, 1) := by decide +kernel
theorem dX4_sets_57 : decode cX4_sets 57 = .ok (.aload_n 0, 1) := by decide +kernel
theorem dX4_sets_58 : decode cX4_sets 58 = .ok (.getfield 9, 3) := by decide +kernel
theorem dX4_sets_61 : decode cX4_sets 61 = .ok (.iload_n 1, 1) := by decide +kernel
theorem dX4_sets_62 : decode cX4_sets 62 = .ok (.iload_n 2, 1) := by decide +kernel
theorem dX4_sets_63 : decode cX4_sets 63 = .ok (.invokestatic 73, 3) := by decide +kernel
theorem dX4_sets_66 : decode cX4_sets 66 = .ok (.iload_n 3, 1) := by decide +kernel
theorem dX4_sets_67 : decode cX4_sets 67 = .ok (.iastore, 1) := by decide +kernel
theorem dX4_sets_68 : decode cX4_sets 68 = .ok (.iload 5, 2) := by decide +kernel
theorem dX4_sets_70 : decode cX4_sets 70 = .ok (.ireturn, 1) := by decide +kernel
theorem dX4_rate_0 : decode cX4_rate 0 = .ok (.aload_n 0, 1) := by decide +kernel
theorem dX4_rate_1 : decode cX4_rate 1 = .ok (.invokevirtual 77, 3) := by decide +kernel
theorem dX4_rate_4 : decode cX4_rate 4 = .ok (.aload_n 0, 1) := by decide +kernel
theorem dX4_rate_5 : decode cX4_rate 5 = .ok (.aload_n 0, 1) := by decide +kernel
theorem dX4_rate_6 : decode cX4_rate 6 = .ok (.iload_n 1, 1) := by decide +kernel
theorem dX4_rate_7 : decode cX4_rate 7 = .ok (.iconst 0, 1) := by decide +kernel
theorem dX4_rate_8 : decode cX4_rate 8 = .ok (.iload_n 2, 1) := by decide +kernel
theorem dX4_rate_9 : decode cX4_rate 9 = .ok (.iload_n 2, 1) := by decide +kernel
theorem dX4_rate_10 : decode cX4_rate 10 = .ok (.iconst 1, 1) := by decide +kernel
theorem dX4_rate_11 : decode cX4_rate 11 = .ok (.bipush 64, 2) := by decide +kernel
theorem dX4_rate_13 : decode cX4_rate 13 = .ok (.invokestatic 61, 3) := by decide +kernel
theorem dX4_rate_16 : decode cX4_rate 16 = .ok (.invokevirtual 90, 3) := by decide +kernel
theorem dX4_rate_19 : decode cX4_rate 19 = .ok (.invokevirtual 83, 3) := by decide +kernel
theorem dX4_rate_22 : decode cX4_rate 22 = .ok (.ireturn, 1) := by decide +kernel
theorem dX4_caution_0 : decode cX4_caution 0 = .ok (.aload_n 0, 1) := by decide +kernel
theorem dX4_caution_1 : decode cX4_caution 1 = .ok (.invokevirtual 77, 3) := by decide +kernel
theorem dX4_caution_4 : decode cX4_caution 4 = .ok (.aload_n 0, 1) := by decide +kernel
theorem dX4_caution_5 : decode cX4_caution 5 = .ok (.aload_n 0, 1) := by decide +kernel
theorem dX4_caution_6 : decode cX4_caution 6 = .ok (.iload_n 1, 1) := by decide +kernel
theorem dX4_caution_7 : decode cX4_caution 7 = .ok (.iconst 1, 1) := by decide +kernel
theorem dX4_caution_8 : decode cX4_caution 8 = .ok (.iload_n 2, 1) := by decide +kernel
theorem dX4_caution_9 : decode cX4_caution 9 = .ok (.iload_n 2, 1) := by decide +kernel
theorem dX4_caution_10 : decode cX4_caution 10 = .ok (.iconst 0, 1) := by decide +kernel
theorem dX4_caution_11 : decode cX4_caution 11 = .ok (.sipush 256, 3) := by decide +kernel
theorem dX4_caution_14 : decode cX4_caution 14 = .ok (.invokestatic 61, 3) := by decide +kernel
theorem dX4_caution_17 : decode cX4_caution 17 = .ok (.invokevirtual 90, 3) := by decide +kernel
theorem dX4_caution_20 : decode cX4_caution 20 = .ok (.invokevirtual 83, 3) := by decide +kernel
theorem dX4_caution_23 : decode cX4_caution 23 = .ok (.ireturn, 1) := by decide +kernel
theorem dX4_doVisitor_0 : decode cX4_doVisitor 0 = .ok (.aload_n 0, 1) := by decide +kernel
theorem dX4_doVisitor_1 : decode cX4_doVisitor 1 = .ok (.getfield 9, 3) := by decide +kernel
theorem dX4_doVisitor_4 : decode cX4_doVisitor 4 = .ok (.iconst 1, 1) := by decide +kernel
theorem dX4_doVisitor_5 : decode cX4_doVisitor 5 = .ok (.iaload, 1) := by decide +kernel
theorem dX4_doVisitor_6 : decode cX4_doVisitor 6 = .ok (.istore_n 3, 1) := by decide +kernel
theorem dX4_doVisitor_7 : decode cX4_doVisitor 7 = .ok (.iload_n 1, 1) := by decide +kernel
theorem dX4_doVisitor_8 : decode cX4_doVisitor 8 = .ok (.invokestatic 94, 3) := by decide +kernel
theorem dX4_doVisitor_11 : decode cX4_doVisitor 11 = .ok (.ifCond .ne 9, 3) := by decide +kernel
theorem dX4_doVisitor_14 : decode cX4_doVisitor 14 = .ok (.aload_n 0, 1) := by decide +kernel
theorem dX4_doVisitor_15 : decode cX4_doVisitor 15 = .ok (.iconst 1, 1) := by decide +kernel
theorem dX4_doVisitor_16 : decode cX4_doVisitor 16 = .ok (.invokevirtual 65, 3) := by decide +kernel
theorem dX4_doVisitor_19 : decode cX4_doVisitor 19 = .ok (.ireturn, 1) := by decide +kernel
theorem dX4_doVisitor_20 : decode cX4_doVisitor 20 = .ok (.iconst 0, 1) := by decide +kernel
theorem dX4_doVisitor_21 : decode cX4_doVisitor 21 = .ok (.istore 4, 2) := by decide +kernel
theorem dX4_doVisitor_23 : decode cX4_doVisitor 23 = .ok (.iload 4, 2) := by decide +kernel
theorem dX4_doVisitor_25 : decode cX4_doVisitor 25 = .ok (.iload_n 3, 1) := by decide +kernel
theorem dX4_doVisitor_26 : decode cX4_doVisitor 26 = .ok (.if_icmp .ge 28, 3) := by decide +kernel
theorem dX4_doVisitor_29 : decode cX4_doVisitor 29 = .ok (.aload_n 0, 1) := by decide +kernel
theorem dX4_doVisitor_30 : decode cX4_doVisitor 30 = .ok (.iload 4, 2) := by decide +kernel
theorem dX4_doVisitor_32 : decode cX4_doVisitor 32 = .ok (.invokevirtual 97, 3) := by decide +kernel
theorem dX4_doVisitor_35 : decode cX4_doVisitor 35 = .ok (.iload_n 1, 1) := by decide +kernel
theorem dX4_doVisitor_36 : decode cX4_doVisitor 36 = .ok (.if_icmp .ne 12, 3) := by decide +kernel
theorem dX4_doVisitor_39 : decode cX4_doVisitor 39 = .ok (.aload_n 0, 1) := by decide +kernel
theorem dX4_doVisitor_40 : decode cX4_doVisitor 40 = .ok (.iconst 2, 1) := by decide +kernel
theorem dX4_doVisitor_41 : decode cX4_doVisitor 41 = .ok (.iconst 2, 1) := by decide +kernel
theorem dX4_doVisitor_42 : decode cX4_doVisitor 42 = .ok (.iload 4, 2) := by decide +kernel
theorem dX4_doVisitor_44 : decode cX4_doVisitor 44 = .ok (.invokevirtual 69, 3) := by decide +kernel
theorem dX4_doVisitor_47 : decode cX4_doVisitor 47 = .ok (.ireturn, 1) := by decide +kernel
theorem dX4_doVisitor_48 : decode cX4_doVisitor 48 = .ok (.iinc 4 1, 3) := by decide +kernel
theorem dX4_doVisitor_51 : decode cX4_doVisitor 51 = .ok (.goto (-28), 3) := by decide +kernel
theorem dX4_doVisitor_54 : decode cX4_doVisitor 54 = .ok (.iload_n 3, 1) := by decide +kernel
theorem dX4_doVisitor_55 : decode cX4_doVisitor 55 = .ok (.bipush 12, 2) := by decide +kernel
theorem dX4_doVisitor_57 : decode cX4_doVisitor 57 = .ok (.if_icmp .ne 12, 3) := by decide +kernel
theorem dX4_doVisitor_60 : decode cX4_doVisitor 60 = .ok (.aload_n 0, 1) := by decide +kernel
theorem dX4_doVisitor_61 : decode cX4_doVisitor 61 = .ok (.iconst 2, 1) := by decide +kernel
theorem dX4_doVisitor_62 : decode cX4_doVisitor 62 = .ok (.iconst 1, 1) := by decide +kernel
theorem dX4_doVisitor_63 : decode cX4_doVisitor 63 = .ok (.bipush 12, 2) := by decide +kernel
theorem dX4_doVisitor_65 : decode cX4_doVisitor 65 = .ok (.invokevirtual 69, 3) := by decide +kernel
theorem dX4_doVisitor_68 : decode cX4_doVisitor 68 = .ok (.ireturn, 1) := by decide +kernel
theorem dX4_doVisitor_69 : decode cX4_doVisitor 69 = .ok (.aload_n 0, 1) := by decide +kernel
theorem dX4_doVisitor_70 : decode cX4_doVisitor 70 = .ok (.getfield 9, 3) := by decide +kernel
theorem dX4_doVisitor_73 : decode cX4_doVisitor 73 = .ok (.iconst 2, 1) := by decide +kernel
theorem dX4_doVisitor_74 : decode cX4_doVisitor 74 = .ok (.iconst 2, 1) := by decide +kernel
theorem dX4_doVisitor_75 : decode cX4_doVisitor 75 = .ok (.iload_n 3, 1) := by decide +kernel
theorem dX4_doVisitor_76 : decode cX4_doVisitor 76 = .ok (.imul, 1) := by decide +kernel
theorem dX4_doVisitor_77 : decode cX4_doVisitor 77 = .ok (.iadd, 1) := by decide +kernel
theorem dX4_doVisitor_78 : decode cX4_doVisitor 78 = .ok (.iload_n 1, 1) := by decide +kernel
theorem dX4_doVisitor_79 : decode cX4_doVisitor 79 = .ok (.iastore, 1) := by decide +kernel
theorem dX4_doVisitor_80 : decode cX4_doVisitor 80 = .ok (.aload_n 0, 1) := by decide +kernel
theorem dX4_doVisitor_81 : decode cX4_doVisitor 81 = .ok (.getfield 9, 3) := by decide +kernel
theorem dX4_doVisitor_84 : decode cX4_doVisitor 84 = .ok (.iconst 2, 1) := by decide +kernel
theorem dX4_doVisitor_85 : decode cX4_doVisitor 85 = .ok (.iconst 2, 1) := by decide +kernel
theorem dX4_doVisitor_86 : decode cX4_doVisitor 86 = .ok (.iload_n 3, 1) := by decide +kernel
theorem dX4_doVisitor_87 : decode cX4_doVisitor 87 = .ok (.imul, 1) := by decide +kernel
theorem dX4_doVisitor_88 : decode cX4_doVisitor 88 = .ok (.iadd, 1) := by decide +kernel
theorem dX4_doVisitor_89 : decode cX4_doVisitor 89 = .ok (.iconst 1, 1) := by decide +kernel
theorem dX4_doVisitor_90 : decode cX4_doVisitor 90 = .ok (.iadd, 1) := by decide +kernel
theorem dX4_doVisitor_91 : decode cX4_doVisitor 91 = .ok (.iload_n 2, 1) := by decide +kernel
theorem dX4_doVisitor_92 : decode cX4_doVisitor 92 = .ok (.ifCond .eq 7, 3) := by decide +kernel
theorem dX4_doVisitor_95 : decode cX4_doVisitor 95 = .ok (.iconst 1, 1) := by decide +kernel
theorem dX4_doVisitor_96 : decode cX4_doVisitor 96 = .ok (.goto 4, 3) := by decide +kernel
theorem dX4_doVisitor_99 : decode cX4_doVisitor 99 = .ok (.iconst 0, 1) := by decide +kernel
theorem dX4_doVisitor_100 : decode cX4_doVisitor 100 = .ok (.iastore, 1) := by decide +kernel
theorem dX4_doVisitor_101 : decode cX4_doVisitor 101 = .ok (.aload_n 0, 1) := by decide +kernel
theorem dX4_doVisitor_102 : decode cX4_doVisitor 102 = .ok (.getfield 9, 3) := by decide +kernel
theorem dX4_doVisitor_105 : decode cX4_doVisitor 105 = .ok (.iconst 1, 1) := by decide +kernel
theorem dX4_doVisitor_106 : decode cX4_doVisitor 106 = .ok (.dup2, 1) := by decide +kernel
theorem dX4_doVisitor_107 : decode cX4_doVisitor 107 = .ok (.iaload, 1) := by decide +kernel
theorem dX4_doVisitor_108 : decode cX4_doVisitor 108 = .ok (.iconst 1, 1) := by decide +kernel
theorem dX4_doVisitor_109 : decode cX4_doVisitor 109 = .ok (.iadd, 1) := by decide +kernel
theorem dX4_doVisitor_110 : decode cX4_doVisitor 110 = .ok (.iastore, 1) := by decide +kernel
theorem dX4_doVisitor_111 : decode cX4_doVisitor 111 = .ok (.iload_n 3, 1) := by decide +kernel
theorem dX4_doVisitor_112 : decode cX4_doVisitor 112 = .ok (.ireturn, 1) := by decide +kernel
theorem dX4_visitor_0 : decode cX4_visitor 0 = .ok (.aload_n 0, 1) := by decide +kernel
theorem dX4_visitor_1 : decode cX4_visitor 1 = .ok (.invokevirtual 77, 3) := by decide +kernel
theorem dX4_visitor_4 : decode cX4_visitor 4 = .ok (.aload_n 0, 1) := by decide +kernel
theorem dX4_visitor_5 : decode cX4_visitor 5 = .ok (.aload_n 0, 1) := by decide +kernel
theorem dX4_visitor_6 : decode cX4_visitor 6 = .ok (.iload_n 1, 1) := by decide +kernel
theorem dX4_visitor_7 : decode cX4_visitor 7 = .ok (.iload_n 2, 1) := by decide +kernel
theorem dX4_visitor_8 : decode cX4_visitor 8 = .ok (.invokevirtual 100, 3) := by decide +kernel
theorem dX4_visitor_11 : decode cX4_visitor 11 = .ok (.invokevirtual 83, 3) := by decide +kernel
theorem dX4_visitor_14 : decode cX4_visitor 14 = .ok (.ireturn, 1) := by decide +kernel
theorem dX4_doForget_0 : decode cX4_doForget 0 = .ok (.aload_n 0, 1) := by decide +kernel
theorem dX4_doForget_1 : decode cX4_doForget 1 = .ok (.iload_n 1, 1) := by decide +kernel
theorem dX4_doForget_2 : decode cX4_doForget 2 = .ok (.invokevirtual 104, 3) := by decide +kernel
theorem dX4_doForget_5 : decode cX4_doForget 5 = .ok (.ifCond .ne 9, 3) := by decide +kernel
theorem dX4_doForget_8 : decode cX4_doForget 8 = .ok (.aload_n 0, 1) := by decide +kernel
theorem dX4_doForget_9 : decode cX4_doForget 9 = .ok (.iconst 1, 1) := by decide +kernel
theorem dX4_doForget_10 : decode cX4_doForget 10 = .ok (.invokevirtual 65, 3) := by decide +kernel
theorem dX4_doForget_13 : decode cX4_doForget 13 = .ok (.ireturn, 1) := by decide +kernel
theorem dX4_doForget_14 : decode cX4_doForget 14 = .ok (.aload_n 0, 1) := by decide +kernel
theorem dX4_doForget_15 : decode cX4_doForget 15 = .ok (.getfield 9, 3) := by decide +kernel
theorem dX4_doForget_18 : decode cX4_doForget 18 = .ok (.iconst 1, 1) := by decide +kernel
theorem dX4_doForget_19 : decode cX4_doForget 19 = .ok (.iaload, 1) := by decide +kernel
theorem dX4_doForget_20 : decode cX4_doForget 20 = .ok (.iconst 1, 1) := by decide +kernel
theorem dX4_doForget_21 : decode cX4_doForget 21 = .ok (.isub, 1) := by decide +kernel
theorem dX4_doForget_22 : decode cX4_doForget 22 = .ok (.istore_n 2, 1) := by decide +kernel
theorem dX4_doForget_23 : decode cX4_doForget 23 = .ok (.aload_n 0, 1) := by decide +kernel
theorem dX4_doForget_24 : decode cX4_doForget 24 = .ok (.getfield 9, 3) := by decide +kernel
theorem dX4_doForget_27 : decode cX4_doForget 27 = .ok (.iconst 2, 1) := by decide +kernel
theorem dX4_doForget_28 : decode cX4_doForget 28 = .ok (.iconst 2, 1) := by decide +kernel
theorem dX4_doForget_29 : decode cX4_doForget 29 = .ok (.iload_n 1, 1) := by decide +kernel
theorem dX4_doForget_30 : decode cX4_doForget 30 = .ok (.imul, 1) := by decide +kernel
theorem dX4_doForget_31 : decode cX4_doForget 31 = .ok (.iadd, 1) := by decide +kernel
theorem dX4_doForget_32 : decode cX4_doForget 32 = .ok (.iconst 2, 1) := by decide +kernel
theorem dX4_doForget_33 : decode cX4_doForget 33 = .ok (.iadd, 1) := by decide +kernel
theorem dX4_doForget_34 : decode cX4_doForget 34 = .ok (.aload_n 0, 1) := by decide +kernel
theorem dX4_doForget_35 : decode cX4_doForget 35 = .ok (.getfield 9, 3) := by decide +kernel
theorem dX4_doForget_38 : decode cX4_doForget 38 = .ok (.iconst 2, 1) := by decide +kernel
theorem dX4_doForget_39 : decode cX4_doForget 39 = .ok (.iconst 2, 1) := by decide +kernel
theorem dX4_doForget_40 : decode cX4_doForget 40 = .ok (.iload_n 1, 1) := by decide +kernel
theorem dX4_doForget_41 : decode cX4_doForget 41 = .ok (.imul, 1) := by decide +kernel
theorem dX4_doForget_42 : decode cX4_doForget 42 = .ok (.iadd, 1) := by decide +kernel
theorem dX4_doForget_43 : decode cX4_doForget 43 = .ok (.iconst 2, 1) := by decide +kernel
theorem dX4_doForget_44 : decode cX4_doForget 44 = .ok (.iload_n 2, 1) := by decide +kernel
theorem dX4_doForget_45 : decode cX4_doForget 45 = .ok (.iload_n 1, 1) := by decide +kernel
theorem dX4_doForget_46 : decode cX4_doForget 46 = .ok (.isub, 1) := by decide +kernel
theorem dX4_doForget_47 : decode cX4_doForget 47 = .ok (.imul, 1) := by decide +kernel
theorem dX4_doForget_48 : decode cX4_doForget 48 = .ok (.invokestatic 42, 3) := by decide +kernel
theorem dX4_doForget_51 : decode cX4_doForget 51 = .ok (.aload_n 0, 1) := by decide +kernel
theorem dX4_doForget_52 : decode cX4_doForget 52 = .ok (.getfield 9, 3) := by decide +kernel
theorem dX4_doForget_55 : decode cX4_doForget 55 = .ok (.iconst 1, 1) := by decide +kernel
theorem dX4_doForget_56 : decode cX4_doForget 56 = .ok (.iload_n 2, 1) := by decide +kernel
theorem dX4_doForget_57 : decode cX4_doForget 57 = .ok (.iastore, 1) := by decide +kernel
theorem dX4_doForget_58 : decode cX4_doForget 58 = .ok (.iload_n 2, 1) := by decide +kernel
theorem dX4_doForget_59 : decode cX4_doForget 59 = .ok (.ireturn, 1) := by decide +kernel
theorem dX4_forget_0 : decode cX4_forget 0 = .ok (.aload_n 0, 1) := by decide +kernel
theorem dX4_forget_1 : decode cX4_forget 1 = .ok (.invokevirtual 77, 3) := by decide +kernel
theorem dX4_forget_4 : decode cX4_forget 4 = .ok (.aload_n 0, 1) := by decide +kernel
theorem dX4_forget_5 : decode cX4_forget 5 = .ok (.aload_n 0, 1) := by decide +kernel
theorem dX4_forget_6 : decode cX4_forget 6 = .ok (.iload_n 1, 1) := by decide +kernel
theorem dX4_forget_7 : decode cX4_forget 7 = .ok (.invokevirtual 107, 3) := by decide +kernel
theorem dX4_forget_10 : decode cX4_forget 10 = .ok (.invokevirtual 83, 3) := by decide +kernel
theorem dX4_forget_13 : decode cX4_forget 13 = .ok (.ireturn, 1) := by decide +kernel
theorem dX4_has_0 : decode cX4_has 0 = .ok (.iload_n 1, 1) := by decide +kernel
theorem dX4_has_1 : decode cX4_has 1 = .ok (.ifCond .lt 12, 3) := by decide +kernel
theorem dX4_has_4 : decode cX4_has 4 = .ok (.iload_n 0, 1) := by decide +kernel
theorem dX4_has_5 : decode cX4_has 5 = .ok (.iload_n 1, 1) := by decide +kernel
theorem dX4_has_6 : decode cX4_has 6 = .ok (.ishr, 1) := by decide +kernel
theorem dX4_has_7 : decode cX4_has 7 = .ok (.iconst 1, 1) := by decide +kernel
theorem dX4_has_8 : decode cX4_has 8 = .ok (.iand, 1) := by decide +kernel
theorem dX4_has_9 : decode cX4_has 9 = .ok (.iconst 1, 1) := by decide +kernel
theorem dX4_has_10 : decode cX4_has 10 = .ok (.if_icmp .ne 7, 3) := by decide +kernel
theorem dX4_has_13 : decode cX4_has 13 = .ok (.iconst 1, 1) := by decide +kernel
theorem dX4_has_14 : decode cX4_has 14 = .ok (.goto 4, 3) := by decide +kernel
theorem dX4_has_17 : decode cX4_has 17 = .ok (.iconst 0, 1) := by decide +kernel
theorem dX4_has_18 : decode cX4_has 18 = .ok (.ireturn, 1) := by decide +kernel
theorem dX4_countedOf_0 : decode cX4_countedOf 0 = .ok (.aload_n 0, 1) := by decide +kernel
theorem dX4_countedOf_1 : decode cX4_countedOf 1 = .ok (.getfield 9, 3) := by decide +kernel
theorem dX4_countedOf_4 : decode cX4_countedOf 4 = .ok (.iload_n 1, 1) := by decide +kernel
theorem dX4_countedOf_5 : decode cX4_countedOf 5 = .ok (.bipush 7, 2) := by decide +kernel
theorem dX4_countedOf_7 : decode cX4_countedOf 7 = .ok (.iload_n 2, 1) := by decide +kernel
theorem dX4_countedOf_8 : decode cX4_countedOf 8 = .ok (.iadd, 1) := by decide +kernel
theorem dX4_countedOf_9 : decode cX4_countedOf 9 = .ok (.invokestatic 73, 3) := by decide +kernel
theorem dX4_countedOf_12 : decode cX4_countedOf 12 = .ok (.iaload, 1) := by decide +kernel
theorem dX4_countedOf_13 : decode cX4_countedOf 13 = .ok (.ireturn, 1) := by decide +kernel
theorem dX4_weight_0 : decode cX4_weight 0 = .ok (.aload_n 0, 1) := by decide +kernel
theorem dX4_weight_1 : decode cX4_weight 1 = .ok (.iload_n 1, 1) := by decide +kernel
theorem dX4_weight_2 : decode cX4_weight 2 = .ok (.iload_n 2, 1) := by decide +kernel
theorem dX4_weight_3 : decode cX4_weight 3 = .ok (.invokevirtual 110, 3) := by decide +kernel
theorem dX4_weight_6 : decode cX4_weight 6 = .ok (.i2f, 1) := by decide +kernel
theorem dX4_weight_7 : decode cX4_weight 7 = .ok (.ldc 113, 2) := by decide +kernel
theorem dX4_weight_9 : decode cX4_weight 9 = .ok (.fdiv, 1) := by decide +kernel
theorem dX4_weight_10 : decode cX4_weight 10 = .ok (.freturn, 1) := by decide +kernel
theorem dX4_marginOf_0 : decode cX4_marginOf 0 = .ok (.aload_n 0, 1) := by decide +kernel
theorem dX4_marginOf_1 : decode cX4_marginOf 1 = .ok (.iload_n 1, 1) := by decide +kernel
theorem dX4_marginOf_2 : decode cX4_marginOf 2 = .ok (.iconst (-1), 1) := by decide +kernel
theorem dX4_marginOf_3 : decode cX4_marginOf 3 = .ok (.invokevirtual 114, 3) := by decide +kernel
theorem dX4_marginOf_6 : decode cX4_marginOf 6 = .ok (.fstore_n 3, 1) := by decide +kernel
theorem dX4_marginOf_7 : decode cX4_marginOf 7 = .ok (.iconst 0, 1) := by decide +kernel
theorem dX4_marginOf_8 : decode cX4_marginOf 8 = .ok (.istore 4, 2) := by decide +kernel
theorem dX4_marginOf_10 : decode cX4_marginOf 10 = .ok (.iload 4, 2) := by decide +kernel
theorem dX4_marginOf_12 : decode cX4_marginOf 12 = .ok (.bipush 10, 2) := by decide +kernel
theorem dX4_marginOf_14 : decode cX4_marginOf 14 = .ok (.if_icmp .ge 32, 3) := by decide +kernel
theorem dX4_marginOf_17 : decode cX4_marginOf 17 = .ok (.iload_n 2, 1) := by decide +kernel
theorem dX4_marginOf_18 : decode cX4_marginOf 18 = .ok (.iload 4, 2) := by decide +kernel
theorem dX4_marginOf_20 : decode cX4_marginOf 20 = .ok (.invokestatic 118, 3) := by decide +kernel
theorem dX4_marginOf_23 : decode cX4_marginOf 23 = .ok (.ifCond .eq 15, 3) := by decide +kernel
theorem dX4_marginOf_26 : decode cX4_marginOf 26 = .ok (.fload_n 3, 1) := by decide +kernel
theorem dX4_marginOf_27 : decode cX4_marginOf 27 = .ok (.aload_n 0, 1) := by decide +kernel
theorem dX4_marginOf_28 : decode cX4_marginOf 28 = .ok (.iload_n 1, 1) := by decide +kernel
theorem dX4_marginOf_29 : decode cX4_marginOf 29 = .ok (.iload 4, 2) := by decide +kernel
theorem dX4_marginOf_31 : decode cX4_marginOf 31 = .ok (.invokevirtual 114, 3) := by decide +kernel
theorem dX4_marginOf_34 : decode cX4_marginOf 34 = .ok (.fadd, 1) := by decide +kernel
theorem dX4_marginOf_35 : decode cX4_marginOf 35 = .ok (.goto 4, 3) := by decide +kernel
theorem dX4_marginOf_38 : decode cX4_marginOf 38 = .ok (.fload_n 3, 1) := by decide +kernel
theorem dX4_marginOf_39 : decode cX4_marginOf 39 = .ok (.fstore_n 3, 1) := by decide +kernel
theorem dX4_marginOf_40 : decode cX4_marginOf 40 = .ok (.iinc 4 1, 3) := by decide +kernel
theorem dX4_marginOf_43 : decode cX4_marginOf 43 = .ok (.goto (-33), 3) := by decide +kernel
theorem dX4_marginOf_46 : decode cX4_marginOf 46 = .ok (.fload_n 3, 1) := by decide +kernel
theorem dX4_marginOf_47 : decode cX4_marginOf 47 = .ok (.freturn, 1) := by decide +kernel
theorem dX4_isIn_0 : decode cX4_isIn 0 = .ok (.aload_n 0, 1) := by decide +kernel
theorem dX4_isIn_1 : decode cX4_isIn 1 = .ok (.iload_n 1, 1) := by decide +kernel
theorem dX4_isIn_2 : decode cX4_isIn 2 = .ok (.iload_n 2, 1) := by decide +kernel
theorem dX4_isIn_3 : decode cX4_isIn 3 = .ok (.invokevirtual 122, 3) := by decide +kernel
theorem dX4_isIn_6 : decode cX4_isIn 6 = .ok (.fconst 0, 1) := by decide +kernel
theorem dX4_isIn_7 : decode cX4_isIn 7 = .ok (.fcmp .l, 1) := by decide +kernel
theorem dX4_isIn_8 : decode cX4_isIn 8 = .ok (.ifCond .le 7, 3) := by decide +kernel
theorem dX4_isIn_11 : decode cX4_isIn 11 = .ok (.iconst 1, 1) := by decide +kernel
theorem dX4_isIn_12 : decode cX4_isIn 12 = .ok (.goto 4, 3) := by decide +kernel
theorem dX4_isIn_15 : decode cX4_isIn 15 = .ok (.iconst 0, 1) := by decide +kernel
theorem dX4_isIn_16 : decode cX4_isIn 16 = .ok (.ireturn, 1) := by decide +kernel
theorem dX4_errs_0 : decode cX4_errs 0 = .ok (.aload_n 0, 1) := by decide +kernel
theorem dX4_errs_1 : decode cX4_errs 1 = .ok (.iload_n 1, 1) := by decide +kernel
theorem dX4_errs_2 : decode cX4_errs 2 = .ok (.aload_n 0, 1) := by decide +kernel
theorem dX4_errs_3 : decode cX4_errs 3 = .ok (.iload_n 2, 1) := by decide +kernel
theorem dX4_errs_4 : decode cX4_errs 4 = .ok (.invokevirtual 97, 3) := by decide +kernel
theorem dX4_errs_7 : decode cX4_errs 7 = .ok (.invokevirtual 125, 3) := by decide +kernel
theorem dX4_errs_10 : decode cX4_errs 10 = .ok (.aload_n 0, 1) := by decide +kernel
theorem dX4_errs_11 : decode cX4_errs 11 = .ok (.iload_n 2, 1) := by decide +kernel
theorem dX4_errs_12 : decode cX4_errs 12 = .ok (.invokevirtual 128, 3) := by decide +kernel
theorem dX4_errs_15 : decode cX4_errs 15 = .ok (.if_icmp .eq 7, 3) := by decide +kernel
theorem dX4_errs_18 : decode cX4_errs 18 = .ok (.iconst 1, 1) := by decide +kernel
theorem dX4_errs_19 : decode cX4_errs 19 = .ok (.goto 4, 3) := by decide +kernel
theorem dX4_errs_22 : decode cX4_errs 22 = .ok (.iconst 0, 1) := by decide +kernel
theorem dX4_errs_23 : decode cX4_errs 23 = .ok (.ireturn, 1) := by decide +kernel
theorem dX4_pushes_0 : decode cX4_pushes 0 = .ok (.aload_n 0, 1) := by decide +kernel
theorem dX4_pushes_1 : decode cX4_pushes 1 = .ok (.iload_n 1, 1) := by decide +kernel
theorem dX4_pushes_2 : decode cX4_pushes 2 = .ok (.aload_n 0, 1) := by decide +kernel
theorem dX4_pushes_3 : decode cX4_pushes 3 = .ok (.iload_n 2, 1) := by decide +kernel
theorem dX4_pushes_4 : decode cX4_pushes 4 = .ok (.invokevirtual 97, 3) := by decide +kernel
theorem dX4_pushes_7 : decode cX4_pushes 7 = .ok (.invokevirtual 122, 3) := by decide +kernel
theorem dX4_pushes_10 : decode cX4_pushes 10 = .ok (.fstore_n 3, 1) := by decide +kernel
theorem dX4_pushes_11 : decode cX4_pushes 11 = .ok (.fload_n 3, 1) := by decide +kernel
theorem dX4_pushes_12 : decode cX4_pushes 12 = .ok (.fconst 0, 1) := by decide +kernel
theorem dX4_pushes_13 : decode cX4_pushes 13 = .ok (.fcmp .g, 1) := by decide +kernel
theorem dX4_pushes_14 : decode cX4_pushes 14 = .ok (.ifCond .ge 8, 3) := by decide +kernel
theorem dX4_pushes_17 : decode cX4_pushes 17 = .ok (.fload_n 3, 1) := by decide +kernel
theorem dX4_pushes_18 : decode cX4_pushes 18 = .ok (.fneg, 1) := by decide +kernel
theorem dX4_pushes_19 : decode cX4_pushes 19 = .ok (.goto 4, 3) := by decide +kernel
theorem dX4_pushes_22 : decode cX4_pushes 22 = .ok (.fload_n 3, 1) := by decide +kernel
theorem dX4_pushes_23 : decode cX4_pushes 23 = .ok (.fstore 4, 2) := by decide +kernel
theorem dX4_pushes_25 : decode cX4_pushes 25 = .ok (.aload_n 0, 1) := by decide +kernel
theorem dX4_pushes_26 : decode cX4_pushes 26 = .ok (.iload_n 1, 1) := by decide +kernel
theorem dX4_pushes_27 : decode cX4_pushes 27 = .ok (.iload_n 2, 1) := by decide +kernel
theorem dX4_pushes_28 : decode cX4_pushes 28 = .ok (.invokevirtual 131, 3) := by decide +kernel
theorem dX4_pushes_31 : decode cX4_pushes 31 = .ok (.ifCond .ne 23, 3) := by decide +kernel
theorem dX4_pushes_34 : decode cX4_pushes 34 = .ok (.fload 4, 2) := by decide +kernel
theorem dX4_pushes_36 : decode cX4_pushes 36 = .ok (.aload_n 0, 1) := by decide +kernel
theorem dX4_pushes_37 : decode cX4_pushes 37 = .ok (.getfield 9, 3) := by decide +kernel
theorem dX4_pushes_40 : decode cX4_pushes 40 = .ok (.iload_n 1, 1) := by decide +kernel
theorem dX4_pushes_41 : decode cX4_pushes 41 = .ok (.iconst 1, 1) := by decide +kernel
theorem dX4_pushes_42 : decode cX4_pushes 42 = .ok (.invokestatic 73, 3) := by decide +kernel
theorem dX4_pushes_45 : decode cX4_pushes 45 = .ok (.iaload, 1) := by decide +kernel
theorem dX4_pushes_46 : decode cX4_pushes 46 = .ok (.i2f, 1) := by decide +kernel
theorem dX4_pushes_47 : decode cX4_pushes 47 = .ok (.ldc 113, 2) := by decide +kernel
theorem dX4_pushes_49 : decode cX4_pushes 49 = .ok (.fdiv, 1) := by decide +kernel
theorem dX4_pushes_50 : decode cX4_pushes 50 = .ok (.fcmp .g, 1) := by decide +kernel
theorem dX4_pushes_51 : decode cX4_pushes 51 = .ok (.ifCond .ge 7, 3) := by decide +kernel
theorem dX4_pushes_54 : decode cX4_pushes 54 = .ok (.iconst 1, 1) := by decide +kernel
theorem dX4_pushes_55 : decode cX4_pushes 55 = .ok (.goto 4, 3) := by decide +kernel
theorem dX4_pushes_58 : decode cX4_pushes 58 = .ok (.iconst 0, 1) := by decide +kernel
theorem dX4_pushes_59 : decode cX4_pushes 59 = .ok (.ireturn, 1) := by decide +kernel
theorem dX4_errors_0 : decode cX4_errors 0 = .ok (.iconst 0, 1) := by decide +kernel
theorem dX4_errors_1 : decode cX4_errors 1 = .ok (.istore_n 2, 1) := by decide +kernel
theorem dX4_errors_2 : decode cX4_errors 2 = .ok (.iconst 0, 1) := by decide +kernel
theorem dX4_errors_3 : decode cX4_errors 3 = .ok (.istore_n 3, 1) := by decide +kernel
theorem dX4_errors_4 : decode cX4_errors 4 = .ok (.iload_n 3, 1) := by decide +kernel
theorem dX4_errors_5 : decode cX4_errors 5 = .ok (.aload_n 0, 1) := by decide +kernel
theorem dX4_errors_6 : decode cX4_errors 6 = .ok (.getfield 9, 3) := by decide +kernel
theorem dX4_errors_9 : decode cX4_errors 9 = .ok (.iconst 1, 1) := by decide +kernel
theorem dX4_errors_10 : decode cX4_errors 10 = .ok (.iaload, 1) := by decide +kernel
theorem dX4_errors_11 : decode cX4_errors 11 = .ok (.if_icmp .ge 26, 3) := by decide +kernel
theorem dX4_errors_14 : decode cX4_errors 14 = .ok (.iload_n 2, 1) := by decide +kernel
theorem dX4_errors_15 : decode cX4_errors 15 = .ok (.aload_n 0, 1) := by decide +kernel
theorem dX4_errors_16 : decode cX4_errors 16 = .ok (.iload_n 1, 1) := by decide +kernel
theorem dX4_errors_17 : decode cX4_errors 17 = .ok (.iload_n 3, 1) := by decide +kernel
theorem dX4_errors_18 : decode cX4_errors 18 = .ok (.invokevirtual 131, 3) := by decide +kernel
theorem dX4_errors_21 : decode cX4_errors 21 = .ok (.ifCond .eq 7, 3) := by decide +kernel
theorem dX4_errors_24 : decode cX4_errors 24 = .ok (.iconst 1, 1) := by decide +kernel
theorem dX4_errors_25 : decode cX4_errors 25 = .ok (.goto 4, 3) := by decide +kernel
theorem dX4_errors_28 : decode cX4_errors 28 = .ok (.iconst 0, 1) := by decide +kernel
theorem dX4_errors_29 : decode cX4_errors 29 = .ok (.iadd, 1) := by decide +kernel
theorem dX4_errors_30 : decode cX4_errors 30 = .ok (.istore_n 2, 1) := by decide +kernel
theorem dX4_errors_31 : decode cX4_errors 31 = .ok (.iinc 3 1, 3) := by decide +kernel
theorem dX4_errors_34 : decode cX4_errors 34 = .ok (.goto (-30), 3) := by decide +kernel
theorem dX4_errors_37 : decode cX4_errors 37 = .ok (.iload_n 2, 1) := by decide +kernel
theorem dX4_errors_38 : decode cX4_errors 38 = .ok (.ireturn, 1) := by decide +kernel
theorem dX4_errorsAbout_0 : decode cX4_errorsAbout 0 = .ok (.iconst 0, 1) := by decide +kernel
theorem dX4_errorsAbout_1 : decode cX4_errorsAbout 1 = .ok (.istore_n 2, 1) := by decide +kernel
theorem dX4_errorsAbout_2 : decode cX4_errorsAbout 2 = .ok (.iconst 0, 1) := by decide +kernel
theorem dX4_errorsAbout_3 : decode cX4_errorsAbout 3 = .ok (.istore_n 3, 1) := by decide +kernel
theorem dX4_errorsAbout_4 : decode cX4_errorsAbout 4 = .ok (.iload_n 3, 1) := by decide +kernel
theorem dX4_errorsAbout_5 : decode cX4_errorsAbout 5 = .ok (.aload_n 0, 1) := by decide +kernel
theorem dX4_errorsAbout_6 : decode cX4_errorsAbout 6 = .ok (.getfield 9, 3) := by decide +kernel
theorem dX4_errorsAbout_9 : decode cX4_errorsAbout 9 = .ok (.iconst 0, 1) := by decide +kernel
theorem dX4_errorsAbout_10 : decode cX4_errorsAbout 10 = .ok (.iaload, 1) := by decide +kernel
theorem dX4_errorsAbout_11 : decode cX4_errorsAbout 11 = .ok (.if_icmp .ge 26, 3) := by decide +kernel
theorem dX4_errorsAbout_14 : decode cX4_errorsAbout 14 = .ok (.iload_n 2, 1) := by decide +kernel
theorem dX4_errorsAbout_15 : decode cX4_errorsAbout 15 = .ok (.aload_n 0, 1) := by decide +kernel
theorem dX4_errorsAbout_16 : decode cX4_errorsAbout 16 = .ok (.iload_n 3, 1) := by decide +kernel
theorem dX4_errorsAbout_17 : decode cX4_errorsAbout 17 = .ok (.iload_n 1, 1) := by decide +kernel
theorem dX4_errorsAbout_18 : decode cX4_errorsAbout 18 = .ok (.invokevirtual 131, 3) := by decide +kernel
theorem dX4_errorsAbout_21 : decode cX4_errorsAbout 21 = .ok (.ifCond .eq 7, 3) := by decide +kernel
theorem dX4_errorsAbout_24 : decode cX4_errorsAbout 24 = .ok (.iconst 1, 1) := by decide +kernel
theorem dX4_errorsAbout_25 : decode cX4_errorsAbout 25 = .ok (.goto 4, 3) := by decide +kernel
theorem dX4_errorsAbout_28 : decode cX4_errorsAbout 28 = .ok (.iconst 0, 1) := by decide +kernel
theorem dX4_errorsAbout_29 : decode cX4_errorsAbout 29 = .ok (.iadd, 1) := by decide +kernel
theorem dX4_errorsAbout_30 : decode cX4_errorsAbout 30 = .ok (.istore_n 2, 1) := by decide +kernel
theorem dX4_errorsAbout_31 : decode cX4_errorsAbout 31 = .ok (.iinc 3 1, 3) := by decide +kernel
theorem dX4_errorsAbout_34 : decode cX4_errorsAbout 34 = .ok (.goto (-30), 3) := by decide +kernel
theorem dX4_errorsAbout_37 : decode cX4_errorsAbout 37 = .ok (.iload_n 2, 1) := by decide +kernel
theorem dX4_errorsAbout_38 : decode cX4_errorsAbout 38 = .ok (.ireturn, 1) := by decide +kernel
theorem dX4_sizeOf_0 : decode cX4_sizeOf 0 = .ok (.iconst 0, 1) := by decide +kernel
theorem dX4_sizeOf_1 : decode cX4_sizeOf 1 = .ok (.istore_n 1, 1) := by decide +kernel
theorem dX4_sizeOf_2 : decode cX4_sizeOf 2 = .ok (.iconst 0, 1) := by decide +kernel
theorem dX4_sizeOf_3 : decode cX4_sizeOf 3 = .ok (.istore_n 2, 1) := by decide +kernel
theorem dX4_sizeOf_4 : decode cX4_sizeOf 4 = .ok (.iload_n 2, 1) := by decide +kernel
theorem dX4_sizeOf_5 : decode cX4_sizeOf 5 = .ok (.bipush 10, 2) := by decide +kernel
theorem dX4_sizeOf_7 : decode cX4_sizeOf 7 = .ok (.if_icmp .ge 25, 3) := by decide +kernel
theorem dX4_sizeOf_10 : decode cX4_sizeOf 10 = .ok (.iload_n 1, 1) := by decide +kernel
theorem dX4_sizeOf_11 : decode cX4_sizeOf 11 = .ok (.iload_n 0, 1) := by decide +kernel
theorem dX4_sizeOf_12 : decode cX4_sizeOf 12 = .ok (.iload_n 2, 1) := by decide +kernel
theorem dX4_sizeOf_13 : decode cX4_sizeOf 13 = .ok (.invokestatic 118, 3) := by decide +kernel
theorem dX4_sizeOf_16 : decode cX4_sizeOf 16 = .ok (.ifCond .eq 7, 3) := by decide +kernel
theorem dX4_sizeOf_19 : decode cX4_sizeOf 19 = .ok (.iconst 1, 1) := by decide +kernel
theorem dX4_sizeOf_20 : decode cX4_sizeOf 20 = .ok (.goto 4, 3) := by decide +kernel
theorem dX4_sizeOf_23 : decode cX4_sizeOf 23 = .ok (.iconst 0, 1) := by decide +kernel
theorem dX4_sizeOf_24 : decode cX4_sizeOf 24 = .ok (.iadd, 1) := by decide +kernel
theorem dX4_sizeOf_25 : decode cX4_sizeOf 25 = .ok (.istore_n 1, 1) := by decide +kernel
theorem dX4_sizeOf_26 : decode cX4_sizeOf 26 = .ok (.iinc 2 1, 3) := by decide +kernel
theorem dX4_sizeOf_29 : decode cX4_sizeOf 29 = .ok (.goto (-25), 3) := by decide +kernel
theorem dX4_sizeOf_32 : decode cX4_sizeOf 32 = .ok (.iload_n 1, 1) := by decide +kernel
theorem dX4_sizeOf_33 : decode cX4_sizeOf 33 = .ok (.ireturn, 1) := by decide +kernel
theorem dX4_placeOf_0 : decode cX4_placeOf 0 = .ok (.iconst 0, 1) := by decide +kernel
theorem dX4_placeOf_1 : decode cX4_placeOf 1 = .ok (.istore_n 2, 1) := by decide +kernel
theorem dX4_placeOf_2 : decode cX4_placeOf 2 = .ok (.iconst 0, 1) := by decide +kernel
theorem dX4_placeOf_3 : decode cX4_placeOf 3 = .ok (.istore_n 3, 1) := by decide +kernel
theorem dX4_placeOf_4 : decode cX4_placeOf 4 = .ok (.iload_n 3, 1) := by decide +kernel
theorem dX4_placeOf_5 : decode cX4_placeOf 5 = .ok (.iload_n 1, 1) := by decide +kernel
theorem dX4_placeOf_6 : decode cX4_placeOf 6 = .ok (.if_icmp .ge 30, 3) := by decide +kernel
theorem dX4_placeOf_9 : decode cX4_placeOf 9 = .ok (.iload_n 2, 1) := by decide +kernel
theorem dX4_placeOf_10 : decode cX4_placeOf 10 = .ok (.aload_n 0, 1) := by decide +kernel
theorem dX4_placeOf_11 : decode cX4_placeOf 11 = .ok (.iload_n 3, 1) := by decide +kernel
theorem dX4_placeOf_12 : decode cX4_placeOf 12 = .ok (.invokevirtual 128, 3) := by decide +kernel
theorem dX4_placeOf_15 : decode cX4_placeOf 15 = .ok (.aload_n 0, 1) := by decide +kernel
theorem dX4_placeOf_16 : decode cX4_placeOf 16 = .ok (.iload_n 1, 1) := by decide +kernel
theorem dX4_placeOf_17 : decode cX4_placeOf 17 = .ok (.invokevirtual 128, 3) := by decide +kernel
theorem dX4_placeOf_20 : decode cX4_placeOf 20 = .ok (.if_icmp .ne 7, 3) := by decide +kernel
theorem dX4_placeOf_23 : decode cX4_placeOf 23 = .ok (.iconst 1, 1) := by decide +kernel
theorem dX4_placeOf_24 : decode cX4_placeOf 24 = .ok (.goto 4, 3) := by decide +kernel
theorem dX4_placeOf_27 : decode cX4_placeOf 27 = .ok (.iconst 0, 1) := by decide +kernel
theorem dX4_placeOf_28 : decode cX4_placeOf 28 = .ok (.iadd, 1) := by decide +kernel
theorem dX4_placeOf_29 : decode cX4_placeOf 29 = .ok (.istore_n 2, 1) := by decide +kernel
theorem dX4_placeOf_30 : decode cX4_placeOf 30 = .ok (.iinc 3 1, 3) := by decide +kernel
theorem dX4_placeOf_33 : decode cX4_placeOf 33 = .ok (.goto (-29), 3) := by decide +kernel
theorem dX4_placeOf_36 : decode cX4_placeOf 36 = .ok (.iload_n 2, 1) := by decide +kernel
theorem dX4_placeOf_37 : decode cX4_placeOf 37 = .ok (.ireturn, 1) := by decide +kernel
theorem dX4_visitorOf_0 : decode cX4_visitorOf 0 = .ok (.aload_n 0, 1) := by decide +kernel
theorem dX4_visitorOf_1 : decode cX4_visitorOf 1 = .ok (.aload_n 0, 1) := by decide +kernel
theorem dX4_visitorOf_2 : decode cX4_visitorOf 2 = .ok (.iload_n 1, 1) := by decide +kernel
theorem dX4_visitorOf_3 : decode cX4_visitorOf 3 = .ok (.invokevirtual 104, 3) := by decide +kernel
theorem dX4_visitorOf_6 : decode cX4_visitorOf 6 = .ok (.ifCond .ne 7, 3) := by decide +kernel
theorem dX4_visitorOf_9 : decode cX4_visitorOf 9 = .ok (.iconst 1, 1) := by decide +kernel
theorem dX4_visitorOf_10 : decode cX4_visitorOf 10 = .ok (.goto 17, 3) := by decide +kernel
theorem dX4_visitorOf_13 : decode cX4_visitorOf 13 = .ok (.iload_n 2, 1) := by decide +kernel
theorem dX4_visitorOf_14 : decode cX4_visitorOf 14 = .ok (.iconst 0, 1) := by decide +kernel
theorem dX4_visitorOf_15 : decode cX4_visitorOf 15 = .ok (.iconst 4, 1) := by decide +kernel
theorem dX4_visitorOf_16 : decode cX4_visitorOf 16 = .ok (.invokestatic 61, 3) := by decide +kernel
theorem dX4_visitorOf_19 : decode cX4_visitorOf 19 = .ok (.ifCond .ne 7, 3) := by decide +kernel
theorem dX4_visitorOf_22 : decode cX4_visitorOf 22 = .ok (.iconst 2, 1) := by decide +kernel
theorem dX4_visitorOf_23 : decode cX4_visitorOf 23 = .ok (.goto 4, 3) := by decide +kernel
theorem dX4_visitorOf_26 : decode cX4_visitorOf 26 = .ok (.iconst 0, 1) := by decide +kernel
theorem dX4_visitorOf_27 : decode cX4_visitorOf 27 = .ok (.putfield 39, 3) := by decide +kernel
theorem dX4_visitorOf_30 : decode cX4_visitorOf 30 = .ok (.aload_n 0, 1) := by decide +kernel
theorem dX4_visitorOf_31 : decode cX4_visitorOf 31 = .ok (.getfield 39, 3) := by decide +kernel
theorem dX4_visitorOf_34 : decode cX4_visitorOf 34 = .ok (.ifCond .le 5, 3) := by decide +kernel
theorem dX4_visitorOf_37 : decode cX4_visitorOf 37 = .ok (.iconst 0, 1) := by decide +kernel
theorem dX4_visitorOf_38 : decode cX4_visitorOf 38 = .ok (.ireturn, 1) := by decide +kernel
theorem dX4_visitorOf_39 : decode cX4_visitorOf 39 = .ok (.iload_n 2, 1) := by decide +kernel
theorem dX4_visitorOf_40 : decode cX4_visitorOf 40 = .ok (.tableswitch 67 0 3 #[32, 38, 52, 61], 32) := by decide +kernel
theorem dX4_visitorOf_72 : decode cX4_visitorOf 72 = .ok (.aload_n 0, 1) := by decide +kernel
theorem dX4_visitorOf_73 : decode cX4_visitorOf 73 = .ok (.iload_n 1, 1) := by decide +kernel
theorem dX4_visitorOf_74 : decode cX4_visitorOf 74 = .ok (.invokevirtual 97, 3) := by decide +kernel
theorem dX4_visitorOf_77 : decode cX4_visitorOf 77 = .ok (.ireturn, 1) := by decide +kernel
theorem dX4_visitorOf_78 : decode cX4_visitorOf 78 = .ok (.aload_n 0, 1) := by decide +kernel
theorem dX4_visitorOf_79 : decode cX4_visitorOf 79 = .ok (.iload_n 1, 1) := by decide +kernel
theorem dX4_visitorOf_80 : decode cX4_visitorOf 80 = .ok (.invokevirtual 128, 3) := by decide +kernel
theorem dX4_visitorOf_83 : decode cX4_visitorOf 83 = .ok (.ifCond .eq 7, 3) := by decide +kernel
theorem dX4_visitorOf_86 : decode cX4_visitorOf 86 = .ok (.iconst 1, 1) := by decide +kernel
theorem dX4_visitorOf_87 : decode cX4_visitorOf 87 = .ok (.goto 4, 3) := by decide +kernel
theorem dX4_visitorOf_90 : decode cX4_visitorOf 90 = .ok (.iconst 0, 1) := by decide +kernel
theorem dX4_visitorOf_91 : decode cX4_visitorOf 91 = .ok (.ireturn, 1) := by decide +kernel
theorem dX4_visitorOf_92 : decode cX4_visitorOf 92 = .ok (.aload_n 0, 1) := by decide +kernel
theorem dX4_visitorOf_93 : decode cX4_visitorOf 93 = .ok (.iload_n 1, 1) := by decide +kernel
theorem dX4_visitorOf_94 : decode cX4_visitorOf 94 = .ok (.invokevirtual 97, 3) := by decide +kernel
theorem dX4_visitorOf_97 : decode cX4_visitorOf 97 = .ok (.invokestatic 134, 3) := by decide +kernel
theorem dX4_visitorOf_100 : decode cX4_visitorOf 100 = .ok (.ireturn, 1) := by decide +kernel
theorem dX4_visitorOf_101 : decode cX4_visitorOf 101 = .ok (.aload_n 0, 1) := by decide +kernel
theorem dX4_visitorOf_102 : decode cX4_visitorOf 102 = .ok (.iload_n 1, 1) := by decide +kernel
theorem dX4_visitorOf_103 : decode cX4_visitorOf 103 = .ok (.invokevirtual 137, 3) := by decide +kernel
theorem dX4_visitorOf_106 : decode cX4_visitorOf 106 = .ok (.ireturn, 1) := by decide +kernel
theorem dX4_visitorOf_107 : decode cX4_visitorOf 107 = .ok (.aload_n 0, 1) := by decide +kernel
theorem dX4_visitorOf_108 : decode cX4_visitorOf 108 = .ok (.iload_n 1, 1) := by decide +kernel
theorem dX4_visitorOf_109 : decode cX4_visitorOf 109 = .ok (.invokevirtual 140, 3) := by decide +kernel
theorem dX4_visitorOf_112 : decode cX4_visitorOf 112 = .ok (.ireturn, 1) := by decide +kernel
theorem dX4_guardOf_0 : decode cX4_guardOf 0 = .ok (.aload_n 0, 1) := by decide +kernel
theorem dX4_guardOf_1 : decode cX4_guardOf 1 = .ok (.aload_n 0, 1) := by decide +kernel
theorem dX4_guardOf_2 : decode cX4_guardOf 2 = .ok (.iload_n 1, 1) := by decide +kernel
theorem dX4_guardOf_3 : decode cX4_guardOf 3 = .ok (.invokevirtual 86, 3) := by decide +kernel
theorem dX4_guardOf_6 : decode cX4_guardOf 6 = .ok (.ifCond .ne 7, 3) := by decide +kernel
theorem dX4_guardOf_9 : decode cX4_guardOf 9 = .ok (.iconst 1, 1) := by decide +kernel
theorem dX4_guardOf_10 : decode cX4_guardOf 10 = .ok (.goto 18, 3) := by decide +kernel
theorem dX4_guardOf_13 : decode cX4_guardOf 13 = .ok (.iload_n 2, 1) := by decide +kernel
theorem dX4_guardOf_14 : decode cX4_guardOf 14 = .ok (.iconst 0, 1) := by decide +kernel
theorem dX4_guardOf_15 : decode cX4_guardOf 15 = .ok (.bipush 6, 2) := by decide +kernel
theorem dX4_guardOf_17 : decode cX4_guardOf 17 = .ok (.invokestatic 61, 3) := by decide +kernel
theorem dX4_guardOf_20 : decode cX4_guardOf 20 = .ok (.ifCond .ne 7, 3) := by decide +kernel
theorem dX4_guardOf_23 : decode cX4_guardOf 23 = .ok (.iconst 2, 1) := by decide +kernel
theorem dX4_guardOf_24 : decode cX4_guardOf 24 = .ok (.goto 4, 3) := by decide +kernel
theorem dX4_guardOf_27 : decode cX4_guardOf 27 = .ok (.iconst 0, 1) := by decide +kernel
theorem dX4_guardOf_28 : decode cX4_guardOf 28 = .ok (.putfield 39, 3) := by decide +kernel
theorem dX4_guardOf_31 : decode cX4_guardOf 31 = .ok (.aload_n 0, 1) := by decide +kernel
theorem dX4_guardOf_32 : decode cX4_guardOf 32 = .ok (.getfield 39, 3) := by decide +kernel
theorem dX4_guardOf_35 : decode cX4_guardOf 35 = .ok (.ifCond .le 5, 3) := by decide +kernel
theorem dX4_guardOf_38 : decode cX4_guardOf 38 = .ok (.iconst 0, 1) := by decide +kernel
theorem dX4_guardOf_39 : decode cX4_guardOf 39 = .ok (.ireturn, 1) := by decide +kernel
theorem dX4_guardOf_40 : decode cX4_guardOf 40 = .ok (.iload_n 2, 1) := by decide +kernel
theorem dX4_guardOf_41 : decode cX4_guardOf 41 = .ok (.iconst 4, 1) := by decide +kernel
theorem dX4_guardOf_42 : decode cX4_guardOf 42 = .ok (.if_icmp .ge 16, 3) := by decide +kernel
theorem dX4_guardOf_45 : decode cX4_guardOf 45 = .ok (.aload_n 0, 1) := by decide +kernel
theorem dX4_guardOf_46 : decode cX4_guardOf 46 = .ok (.getfield 9, 3) := by decide +kernel
theorem dX4_guardOf_49 : decode cX4_guardOf 49 = .ok (.iload_n 1, 1) := by decide +kernel
theorem dX4_guardOf_50 : decode cX4_guardOf 50 = .ok (.iload_n 2, 1) := by decide +kernel
theorem dX4_guardOf_51 : decode cX4_guardOf 51 = .ok (.invokestatic 73, 3) := by decide +kernel
theorem dX4_guardOf_54 : decode cX4_guardOf 54 = .ok (.iaload, 1) := by decide +kernel
theorem dX4_guardOf_55 : decode cX4_guardOf 55 = .ok (.goto 35, 3) := by decide +kernel
theorem dX4_guardOf_58 : decode cX4_guardOf 58 = .ok (.iload_n 2, 1) := by decide +kernel
theorem dX4_guardOf_59 : decode cX4_guardOf 59 = .ok (.iconst 4, 1) := by decide +kernel
theorem dX4_guardOf_60 : decode cX4_guardOf 60 = .ok (.if_icmp .ne 11, 3) := by decide +kernel
theorem dX4_guardOf_63 : decode cX4_guardOf 63 = .ok (.aload_n 0, 1) := by decide +kernel
theorem dX4_guardOf_64 : decode cX4_guardOf 64 = .ok (.iload_n 1, 1) := by decide +kernel
theorem dX4_guardOf_65 : decode cX4_guardOf 65 = .ok (.invokevirtual 143, 3) := by decide +kernel
theorem dX4_guardOf_68 : decode cX4_guardOf 68 = .ok (.goto 22, 3) := by decide +kernel
theorem dX4_guardOf_71 : decode cX4_guardOf 71 = .ok (.aload_n 0, 1) := by decide +kernel
theorem dX4_guardOf_72 : decode cX4_guardOf 72 = .ok (.getfield 9, 3) := by decide +kernel
theorem dX4_guardOf_75 : decode cX4_guardOf 75 = .ok (.iload_n 1, 1) := by decide +kernel
theorem dX4_guardOf_76 : decode cX4_guardOf 76 = .ok (.iload_n 2, 1) := by decide +kernel
theorem dX4_guardOf_77 : decode cX4_guardOf 77 = .ok (.iconst 5, 1) := by decide +kernel
theorem dX4_guardOf_78 : decode cX4_guardOf 78 = .ok (.if_icmp .ne 7, 3) := by decide +kernel
theorem dX4_guardOf_81 : decode cX4_guardOf 81 = .ok (.iconst 4, 1) := by decide +kernel
theorem dX4_guardOf_82 : decode cX4_guardOf 82 = .ok (.goto 4, 3) := by decide +kernel
theorem dX4_guardOf_85 : decode cX4_guardOf 85 = .ok (.iconst 5, 1) := by decide +kernel
theorem dX4_guardOf_86 : decode cX4_guardOf 86 = .ok (.invokestatic 73, 3) := by decide +kernel
theorem dX4_guardOf_89 : decode cX4_guardOf 89 = .ok (.iaload, 1) := by decide +kernel
theorem dX4_guardOf_90 : decode cX4_guardOf 90 = .ok (.ireturn, 1) := by decide +kernel
theorem dX4_isAsked_0 : decode cX4_isAsked 0 = .ok (.aload_n 0, 1) := by decide +kernel
theorem dX4_isAsked_1 : decode cX4_isAsked 1 = .ok (.aload_n 0, 1) := by decide +kernel
theorem dX4_isAsked_2 : decode cX4_isAsked 2 = .ok (.iload_n 1, 1) := by decide +kernel
theorem dX4_isAsked_3 : decode cX4_isAsked 3 = .ok (.invokevirtual 86, 3) := by decide +kernel
theorem dX4_isAsked_6 : decode cX4_isAsked 6 = .ok (.ifCond .ne 7, 3) := by decide +kernel
theorem dX4_isAsked_9 : decode cX4_isAsked 9 = .ok (.iconst 1, 1) := by decide +kernel
theorem dX4_isAsked_10 : decode cX4_isAsked 10 = .ok (.goto 12, 3) := by decide +kernel
theorem dX4_isAsked_13 : decode cX4_isAsked 13 = .ok (.iload_n 2, 1) := by decide +kernel
theorem dX4_isAsked_14 : decode cX4_isAsked 14 = .ok (.ifCond .ne 7, 3) := by decide +kernel
theorem dX4_isAsked_17 : decode cX4_isAsked 17 = .ok (.iconst 2, 1) := by decide +kernel
theorem dX4_isAsked_18 : decode cX4_isAsked 18 = .ok (.goto 4, 3) := by decide +kernel
theorem dX4_isAsked_21 : decode cX4_isAsked 21 = .ok (.iconst 0, 1) := by decide +kernel
theorem dX4_isAsked_22 : decode cX4_isAsked 22 = .ok (.putfield 39, 3) := by decide +kernel
theorem dX4_isAsked_25 : decode cX4_isAsked 25 = .ok (.aload_n 0, 1) := by decide +kernel
theorem dX4_isAsked_26 : decode cX4_isAsked 26 = .ok (.getfield 39, 3) := by decide +kernel
theorem dX4_isAsked_29 : decode cX4_isAsked 29 = .ok (.ifCond .ne 7, 3) := by decide +kernel
theorem dX4_isAsked_32 : decode cX4_isAsked 32 = .ok (.iconst 1, 1) := by decide +kernel
theorem dX4_isAsked_33 : decode cX4_isAsked 33 = .ok (.goto 4, 3) := by decide +kernel
theorem dX4_isAsked_36 : decode cX4_isAsked 36 = .ok (.iconst 0, 1) := by decide +kernel
theorem dX4_isAsked_37 : decode cX4_isAsked 37 = .ok (.ireturn, 1) := by decide +kernel
theorem dX4_margin_0 : decode cX4_margin 0 = .ok (.aload_n 0, 1) := by decide +kernel
theorem dX4_margin_1 : decode cX4_margin 1 = .ok (.iload_n 1, 1) := by decide +kernel
theorem dX4_margin_2 : decode cX4_margin 2 = .ok (.iload_n 2, 1) := by decide +kernel
theorem dX4_margin_3 : decode cX4_margin 3 = .ok (.invokestatic 94, 3) := by decide +kernel
theorem dX4_margin_6 : decode cX4_margin 6 = .ok (.invokevirtual 146, 3) := by decide +kernel
theorem dX4_margin_9 : decode cX4_margin 9 = .ok (.ifCond .eq 12, 3) := by decide +kernel
theorem dX4_margin_12 : decode cX4_margin 12 = .ok (.aload_n 0, 1) := by decide +kernel
theorem dX4_margin_13 : decode cX4_margin 13 = .ok (.iload_n 1, 1) := by decide +kernel
theorem dX4_margin_14 : decode cX4_margin 14 = .ok (.iload_n 2, 1) := by decide +kernel
theorem dX4_margin_15 : decode cX4_margin 15 = .ok (.invokevirtual 122, 3) := by decide +kernel
theorem dX4_margin_18 : decode cX4_margin 18 = .ok (.goto 4, 3) := by decide +kernel
theorem dX4_margin_21 : decode cX4_margin 21 = .ok (.fconst 0, 1) := by decide +kernel
theorem dX4_margin_22 : decode cX4_margin 22 = .ok (.freturn, 1) := by decide +kernel
theorem dX4_letsIn_0 : decode cX4_letsIn 0 = .ok (.aload_n 0, 1) := by decide +kernel
theorem dX4_letsIn_1 : decode cX4_letsIn 1 = .ok (.iload_n 1, 1) := by decide +kernel
theorem dX4_letsIn_2 : decode cX4_letsIn 2 = .ok (.iload_n 2, 1) := by decide +kernel
theorem dX4_letsIn_3 : decode cX4_letsIn 3 = .ok (.invokestatic 94, 3) := by decide +kernel
theorem dX4_letsIn_6 : decode cX4_letsIn 6 = .ok (.invokevirtual 146, 3) := by decide +kernel
theorem dX4_letsIn_9 : decode cX4_letsIn 9 = .ok (.ifCond .eq 16, 3) := by decide +kernel
theorem dX4_letsIn_12 : decode cX4_letsIn 12 = .ok (.aload_n 0, 1) := by decide +kernel
theorem dX4_letsIn_13 : decode cX4_letsIn 13 = .ok (.iload_n 1, 1) := by decide +kernel
theorem dX4_letsIn_14 : decode cX4_letsIn 14 = .ok (.iload_n 2, 1) := by decide +kernel
theorem dX4_letsIn_15 : decode cX4_letsIn 15 = .ok (.invokevirtual 125, 3) := by decide +kernel
theorem dX4_letsIn_18 : decode cX4_letsIn 18 = .ok (.ifCond .eq 7, 3) := by decide +kernel
theorem dX4_letsIn_21 : decode cX4_letsIn 21 = .ok (.iconst 1, 1) := by decide +kernel
theorem dX4_letsIn_22 : decode cX4_letsIn 22 = .ok (.goto 4, 3) := by decide +kernel
theorem dX4_letsIn_25 : decode cX4_letsIn 25 = .ok (.iconst 0, 1) := by decide +kernel
theorem dX4_letsIn_26 : decode cX4_letsIn 26 = .ok (.ireturn, 1) := by decide +kernel
theorem dX4_weightBits_0 : decode cX4_weightBits 0 = .ok (.aload_n 0, 1) := by decide +kernel
theorem dX4_weightBits_1 : decode cX4_weightBits 1 = .ok (.iload_n 1, 1) := by decide +kernel
theorem dX4_weightBits_2 : decode cX4_weightBits 2 = .ok (.iload_n 2, 1) := by decide +kernel
theorem dX4_weightBits_3 : decode cX4_weightBits 3 = .ok (.iconst (-1), 1) := by decide +kernel
theorem dX4_weightBits_4 : decode cX4_weightBits 4 = .ok (.bipush 9, 2) := by decide +kernel
theorem dX4_weightBits_6 : decode cX4_weightBits 6 = .ok (.invokestatic 61, 3) := by decide +kernel
theorem dX4_weightBits_9 : decode cX4_weightBits 9 = .ok (.invokevirtual 146, 3) := by decide +kernel
theorem dX4_weightBits_12 : decode cX4_weightBits 12 = .ok (.ifCond .eq 15, 3) := by decide +kernel
theorem dX4_weightBits_15 : decode cX4_weightBits 15 = .ok (.aload_n 0, 1) := by decide +kernel
theorem dX4_weightBits_16 : decode cX4_weightBits 16 = .ok (.iload_n 1, 1) := by decide +kernel
theorem dX4_weightBits_17 : decode cX4_weightBits 17 = .ok (.iload_n 2, 1) := by decide +kernel
theorem dX4_weightBits_18 : decode cX4_weightBits 18 = .ok (.invokevirtual 114, 3) := by decide +kernel
theorem dX4_weightBits_21 : decode cX4_weightBits 21 = .ok (.invokestatic 150, 3) := by decide +kernel
theorem dX4_weightBits_24 : decode cX4_weightBits 24 = .ok (.goto 4, 3) := by decide +kernel
theorem dX4_weightBits_27 : decode cX4_weightBits 27 = .ok (.iconst 0, 1) := by decide +kernel
theorem dX4_weightBits_28 : decode cX4_weightBits 28 = .ok (.ireturn, 1) := by decide +kernel
theorem dX4_counted_0 : decode cX4_counted 0 = .ok (.aload_n 0, 1) := by decide +kernel
theorem dX4_counted_1 : decode cX4_counted 1 = .ok (.iload_n 1, 1) := by decide +kernel
theorem dX4_counted_2 : decode cX4_counted 2 = .ok (.iload_n 2, 1) := by decide +kernel
theorem dX4_counted_3 : decode cX4_counted 3 = .ok (.iconst (-1), 1) := by decide +kernel
theorem dX4_counted_4 : decode cX4_counted 4 = .ok (.bipush 9, 2) := by decide +kernel
theorem dX4_counted_6 : decode cX4_counted 6 = .ok (.invokestatic 61, 3) := by decide +kernel
theorem dX4_counted_9 : decode cX4_counted 9 = .ok (.invokevirtual 146, 3) := by decide +kernel
theorem dX4_counted_12 : decode cX4_counted 12 = .ok (.ifCond .eq 12, 3) := by decide +kernel
theorem dX4_counted_15 : decode cX4_counted 15 = .ok (.aload_n 0, 1) := by decide +kernel
theorem dX4_counted_16 : decode cX4_counted 16 = .ok (.iload_n 1, 1) := by decide +kernel
theorem dX4_counted_17 : decode cX4_counted 17 = .ok (.iload_n 2, 1) := by decide +kernel
theorem dX4_counted_18 : decode cX4_counted 18 = .ok (.invokevirtual 110, 3) := by decide +kernel
theorem dX4_counted_21 : decode cX4_counted 21 = .ok (.goto 4, 3) := by decide +kernel
theorem dX4_counted_24 : decode cX4_counted 24 = .ok (.iconst 0, 1) := by decide +kernel
theorem dX4_counted_25 : decode cX4_counted 25 = .ok (.ireturn, 1) := by decide +kernel
theorem dX4_mean_0 : decode cX4_mean 0 = .ok (.aload_n 0, 1) := by decide +kernel
theorem dX4_mean_1 : decode cX4_mean 1 = .ok (.iload_n 1, 1) := by decide +kernel
theorem dX4_mean_2 : decode cX4_mean 2 = .ok (.iload_n 2, 1) := by decide +kernel
theorem dX4_mean_3 : decode cX4_mean 3 = .ok (.iconst 0, 1) := by decide +kernel
theorem dX4_mean_4 : decode cX4_mean 4 = .ok (.bipush 9, 2) := by decide +kernel
theorem dX4_mean_6 : decode cX4_mean 6 = .ok (.invokestatic 61, 3) := by decide +kernel
theorem dX4_mean_9 : decode cX4_mean 9 = .ok (.invokevirtual 146, 3) := by decide +kernel
theorem dX4_mean_12 : decode cX4_mean 12 = .ok (.ifCond .eq 16, 3) := by decide +kernel
theorem dX4_mean_15 : decode cX4_mean 15 = .ok (.aload_n 0, 1) := by decide +kernel
theorem dX4_mean_16 : decode cX4_mean 16 = .ok (.getfield 9, 3) := by decide +kernel
theorem dX4_mean_19 : decode cX4_mean 19 = .ok (.iload_n 1, 1) := by decide +kernel
theorem dX4_mean_20 : decode cX4_mean 20 = .ok (.iconst 2, 1) := by decide +kernel
theorem dX4_mean_21 : decode cX4_mean 21 = .ok (.invokestatic 73, 3) := by decide +kernel
theorem dX4_mean_24 : decode cX4_mean 24 = .ok (.iaload, 1) := by decide +kernel
theorem dX4_mean_25 : decode cX4_mean 25 = .ok (.ifCond .ne 24, 3) := by decide +kernel
theorem dX4_mean_28 : decode cX4_mean 28 = .ok (.aload_n 0, 1) := by decide +kernel
theorem dX4_mean_29 : decode cX4_mean 29 = .ok (.aload_n 0, 1) := by decide +kernel
theorem dX4_mean_30 : decode cX4_mean 30 = .ok (.getfield 39, 3) := by decide +kernel
theorem dX4_mean_33 : decode cX4_mean 33 = .ok (.ifCond .le 10, 3) := by decide +kernel
theorem dX4_mean_36 : decode cX4_mean 36 = .ok (.aload_n 0, 1) := by decide +kernel
theorem dX4_mean_37 : decode cX4_mean 37 = .ok (.getfield 39, 3) := by decide +kernel
theorem dX4_mean_40 : decode cX4_mean 40 = .ok (.goto 4, 3) := by decide +kernel
theorem dX4_mean_43 : decode cX4_mean 43 = .ok (.iconst 3, 1) := by decide +kernel
theorem dX4_mean_44 : decode cX4_mean 44 = .ok (.putfield 39, 3) := by decide +kernel
theorem dX4_mean_47 : decode cX4_mean 47 = .ok (.fconst 0, 1) := by decide +kernel
theorem dX4_mean_48 : decode cX4_mean 48 = .ok (.freturn, 1) := by decide +kernel
theorem dX4_mean_49 : decode cX4_mean 49 = .ok (.aload_n 0, 1) := by decide +kernel
theorem dX4_mean_50 : decode cX4_mean 50 = .ok (.getfield 9, 3) := by decide +kernel
theorem dX4_mean_53 : decode cX4_mean 53 = .ok (.iload_n 1, 1) := by decide +kernel
theorem dX4_mean_54 : decode cX4_mean 54 = .ok (.bipush 17, 2) := by decide +kernel
theorem dX4_mean_56 : decode cX4_mean 56 = .ok (.iload_n 2, 1) := by decide +kernel
theorem dX4_mean_57 : decode cX4_mean 57 = .ok (.iadd, 1) := by decide +kernel
theorem dX4_mean_58 : decode cX4_mean 58 = .ok (.invokestatic 73, 3) := by decide +kernel
theorem dX4_mean_61 : decode cX4_mean 61 = .ok (.iaload, 1) := by decide +kernel
theorem dX4_mean_62 : decode cX4_mean 62 = .ok (.invokestatic 156, 3) := by decide +kernel
theorem dX4_mean_65 : decode cX4_mean 65 = .ok (.aload_n 0, 1) := by decide +kernel
theorem dX4_mean_66 : decode cX4_mean 66 = .ok (.getfield 9, 3) := by decide +kernel
theorem dX4_mean_69 : decode cX4_mean 69 = .ok (.iload_n 1, 1) := by decide +kernel
theorem dX4_mean_70 : decode cX4_mean 70 = .ok (.iconst 2, 1) := by decide +kernel
theorem dX4_mean_71 : decode cX4_mean 71 = .ok (.invokestatic 73, 3) := by decide +kernel
theorem dX4_mean_74 : decode cX4_mean 74 = .ok (.iaload, 1) := by decide +kernel
theorem dX4_mean_75 : decode cX4_mean 75 = .ok (.i2f, 1) := by decide +kernel
theorem dX4_mean_76 : decode cX4_mean 76 = .ok (.fdiv, 1) := by decide +kernel
theorem dX4_mean_77 : decode cX4_mean 77 = .ok (.freturn, 1) := by decide +kernel
theorem dX4_strongest_0 : decode cX4_strongest 0 = .ok (.aload_n 0, 1) := by decide +kernel
theorem dX4_strongest_1 : decode cX4_strongest 1 = .ok (.iload_n 1, 1) := by decide +kernel
theorem dX4_strongest_2 : decode cX4_strongest 2 = .ok (.iload_n 2, 1) := by decide +kernel
theorem dX4_strongest_3 : decode cX4_strongest 3 = .ok (.iconst 0, 1) := by decide +kernel
theorem dX4_strongest_4 : decode cX4_strongest 4 = .ok (.bipush 9, 2) := by decide +kernel
theorem dX4_strongest_6 : decode cX4_strongest 6 = .ok (.invokestatic 61, 3) := by decide +kernel
theorem dX4_strongest_9 : decode cX4_strongest 9 = .ok (.invokevirtual 146, 3) := by decide +kernel
theorem dX4_strongest_12 : decode cX4_strongest 12 = .ok (.ifCond .ne 5, 3) := by decide +kernel
theorem dX4_strongest_15 : decode cX4_strongest 15 = .ok (.iconst 0, 1) := by decide +kernel
theorem dX4_strongest_16 : decode cX4_strongest 16 = .ok (.ireturn, 1) := by decide +kernel
theorem dX4_strongest_17 : decode cX4_strongest 17 = .ok (.iconst 0, 1) := by decide +kernel
theorem dX4_strongest_18 : decode cX4_strongest 18 = .ok (.istore_n 3, 1) := by decide +kernel
theorem dX4_strongest_19 : decode cX4_strongest 19 = .ok (.iconst 0, 1) := by decide +kernel
theorem dX4_strongest_20 : decode cX4_strongest 20 = .ok (.istore 4, 2) := by decide +kernel
theorem dX4_strongest_22 : decode cX4_strongest 22 = .ok (.iload 4, 2) := by decide +kernel
theorem dX4_strongest_24 : decode cX4_strongest 24 = .ok (.bipush 10, 2) := by decide +kernel
theorem dX4_strongest_26 : decode cX4_strongest 26 = .ok (.if_icmp .ge 85, 3) := by decide +kernel
theorem dX4_strongest_29 : decode cX4_strongest 29 = .ok (.iconst 0, 1) := by decide +kernel
theorem dX4_strongest_30 : decode cX4_strongest 30 = .ok (.istore 5, 2) := by decide +kernel
theorem dX4_strongest_32 : decode cX4_strongest 32 = .ok (.iconst 0, 1) := by decide +kernel
theorem dX4_strongest_33 : decode cX4_strongest 33 = .ok (.istore 6, 2) := by decide +kernel
theorem dX4_strongest_35 : decode cX4_strongest 35 = .ok (.iload 6, 2) := by decide +kernel
theorem dX4_strongest_37 : decode cX4_strongest 37 = .ok (.bipush 10, 2) := by decide +kernel
theorem dX4_strongest_39 : decode cX4_strongest 39 = .ok (.if_icmp .ge 53, 3) := by decide +kernel
theorem dX4_strongest_42 : decode cX4_strongest 42 = .ok (.aload_n 0, 1) := by decide +kernel
theorem dX4_strongest_43 : decode cX4_strongest 43 = .ok (.iload_n 1, 1) := by decide +kernel
theorem dX4_strongest_44 : decode cX4_strongest 44 = .ok (.iload 6, 2) := by decide +kernel
theorem dX4_strongest_46 : decode cX4_strongest 46 = .ok (.invokevirtual 110, 3) := by decide +kernel
theorem dX4_strongest_49 : decode cX4_strongest 49 = .ok (.aload_n 0, 1) := by decide +kernel
theorem dX4_strongest_50 : decode cX4_strongest 50 = .ok (.iload_n 1, 1) := by decide +kernel
theorem dX4_strongest_51 : decode cX4_strongest 51 = .ok (.iload 4, 2) := by decide +kernel
theorem dX4_strongest_53 : decode cX4_strongest 53 = .ok (.invokevirtual 110, 3) := by decide +kernel
theorem dX4_strongest_56 : decode cX4_strongest 56 = .ok (.isub, 1) := by decide +kernel
theorem dX4_strongest_57 : decode cX4_strongest 57 = .ok (.istore 7, 2) := by decide +kernel
theorem dX4_strongest_59 : decode cX4_strongest 59 = .ok (.iload 5, 2) := by decide +kernel
theorem dX4_strongest_61 : decode cX4_strongest 61 = .ok (.iload 7, 2) := by decide +kernel
theorem dX4_strongest_63 : decode cX4_strongest 63 = .ok (.ifCond .gt 15, 3) := by decide +kernel
theorem dX4_strongest_66 : decode cX4_strongest 66 = .ok (.iload 7, 2) := by decide +kernel
theorem dX4_strongest_68 : decode cX4_strongest 68 = .ok (.ifCond .ne 14, 3) := by decide +kernel
theorem dX4_strongest_71 : decode cX4_strongest 71 = .ok (.iload 6, 2) := by decide +kernel
theorem dX4_strongest_73 : decode cX4_strongest 73 = .ok (.iload 4, 2) := by decide +kernel
theorem dX4_strongest_75 : decode cX4_strongest 75 = .ok (.if_icmp .ge 7, 3) := by decide +kernel
theorem dX4_strongest_78 : decode cX4_strongest 78 = .ok (.iconst 1, 1) := by decide +kernel
theorem dX4_strongest_79 : decode cX4_strongest 79 = .ok (.goto 4, 3) := by decide +kernel
theorem dX4_strongest_82 : decode cX4_strongest 82 = .ok (.iconst 0, 1) := by decide +kernel
theorem dX4_strongest_83 : decode cX4_strongest 83 = .ok (.iadd, 1) := by decide +kernel
theorem dX4_strongest_84 : decode cX4_strongest 84 = .ok (.istore 5, 2) := by decide +kernel
theorem dX4_strongest_86 : decode cX4_strongest 86 = .ok (.iinc 6 1, 3) := by decide +kernel
theorem dX4_strongest_89 : decode cX4_strongest 89 = .ok (.goto (-54), 3) := by decide +kernel
theorem dX4_strongest_92 : decode cX4_strongest 92 = .ok (.iload 5, 2) := by decide +kernel
theorem dX4_strongest_94 : decode cX4_strongest 94 = .ok (.iload_n 2, 1) := by decide +kernel
theorem dX4_strongest_95 : decode cX4_strongest 95 = .ok (.if_icmp .ne 8, 3) := by decide +kernel
theorem dX4_strongest_98 : decode cX4_strongest 98 = .ok (.iload 4, 2) := by decide +kernel
theorem dX4_strongest_100 : decode cX4_strongest 100 = .ok (.goto 4, 3) := by decide +kernel
theorem dX4_strongest_103 : decode cX4_strongest 103 = .ok (.iload_n 3, 1) := by decide +kernel
theorem dX4_strongest_104 : decode cX4_strongest 104 = .ok (.istore_n 3, 1) := by decide +kernel
theorem dX4_strongest_105 : decode cX4_strongest 105 = .ok (.iinc 4 1, 3) := by decide +kernel
theorem dX4_strongest_108 : decode cX4_strongest 108 = .ok (.goto (-86), 3) := by decide +kernel
theorem dX4_strongest_111 : decode cX4_strongest 111 = .ok (.iload_n 3, 1) := by decide +kernel
theorem dX4_strongest_112 : decode cX4_strongest 112 = .ok (.ireturn, 1) := by decide +kernel
theorem dX4_knowsOf_0 : decode cX4_knowsOf 0 = .ok (.aload_n 0, 1) := by decide +kernel
theorem dX4_knowsOf_1 : decode cX4_knowsOf 1 = .ok (.iload_n 1, 1) := by decide +kernel
theorem dX4_knowsOf_2 : decode cX4_knowsOf 2 = .ok (.aload_n 0, 1) := by decide +kernel
theorem dX4_knowsOf_3 : decode cX4_knowsOf 3 = .ok (.iload_n 2, 1) := by decide +kernel
theorem dX4_knowsOf_4 : decode cX4_knowsOf 4 = .ok (.invokevirtual 97, 3) := by decide +kernel
theorem dX4_knowsOf_7 : decode cX4_knowsOf 7 = .ok (.invokevirtual 122, 3) := by decide +kernel
theorem dX4_knowsOf_10 : decode cX4_knowsOf 10 = .ok (.fstore_n 3, 1) := by decide +kernel
theorem dX4_knowsOf_11 : decode cX4_knowsOf 11 = .ok (.aload_n 0, 1) := by decide +kernel
theorem dX4_knowsOf_12 : decode cX4_knowsOf 12 = .ok (.iload_n 2, 1) := by decide +kernel
theorem dX4_knowsOf_13 : decode cX4_knowsOf 13 = .ok (.invokevirtual 128, 3) := by decide +kernel
theorem dX4_knowsOf_16 : decode cX4_knowsOf 16 = .ok (.ifCond .eq 7, 3) := by decide +kernel
theorem dX4_knowsOf_19 : decode cX4_knowsOf 19 = .ok (.fload_n 3, 1) := by decide +kernel
theorem dX4_knowsOf_20 : decode cX4_knowsOf 20 = .ok (.goto 6, 3) := by decide +kernel
theorem dX4_knowsOf_23 : decode cX4_knowsOf 23 = .ok (.fconst 0, 1) := by decide +kernel
theorem dX4_knowsOf_24 : decode cX4_knowsOf 24 = .ok (.fload_n 3, 1) := by decide +kernel
theorem dX4_knowsOf_25 : decode cX4_knowsOf 25 = .ok (.fsub, 1) := by decide +kernel
theorem dX4_knowsOf_26 : decode cX4_knowsOf 26 = .ok (.freturn, 1) := by decide +kernel
theorem dX4_closest_0 : decode cX4_closest 0 = .ok (.aload_n 0, 1) := by decide +kernel
theorem dX4_closest_1 : decode cX4_closest 1 = .ok (.iload_n 1, 1) := by decide +kernel
theorem dX4_closest_2 : decode cX4_closest 2 = .ok (.aload_n 0, 1) := by decide +kernel
theorem dX4_closest_3 : decode cX4_closest 3 = .ok (.getfield 9, 3) := by decide +kernel
theorem dX4_closest_6 : decode cX4_closest 6 = .ok (.iconst 1, 1) := by decide +kernel
theorem dX4_closest_7 : decode cX4_closest 7 = .ok (.iaload, 1) := by decide +kernel
theorem dX4_closest_8 : decode cX4_closest 8 = .ok (.ifCond .le 7, 3) := by decide +kernel
theorem dX4_closest_11 : decode cX4_closest 11 = .ok (.iconst 1, 1) := by decide +kernel
theorem dX4_closest_12 : decode cX4_closest 12 = .ok (.goto 4, 3) := by decide +kernel
theorem dX4_closest_15 : decode cX4_closest 15 = .ok (.iconst 0, 1) := by decide +kernel
theorem dX4_closest_16 : decode cX4_closest 16 = .ok (.invokevirtual 146, 3) := by decide +kernel
theorem dX4_closest_19 : decode cX4_closest 19 = .ok (.ifCond .ne 5, 3) := by decide +kernel
theorem dX4_closest_22 : decode cX4_closest 22 = .ok (.iconst 0, 1) := by decide +kernel
theorem dX4_closest_23 : decode cX4_closest 23 = .ok (.ireturn, 1) := by decide +kernel
theorem dX4_closest_24 : decode cX4_closest 24 = .ok (.iconst 0, 1) := by decide +kernel
theorem dX4_closest_25 : decode cX4_closest 25 = .ok (.istore_n 2, 1) := by decide +kernel
theorem dX4_closest_26 : decode cX4_closest 26 = .ok (.iconst 1, 1) := by decide +kernel
theorem dX4_closest_27 : decode cX4_closest 27 = .ok (.istore_n 3, 1) := by decide +kernel
theorem dX4_closest_28 : decode cX4_closest 28 = .ok (.iload_n 3, 1) := by decide +kernel
theorem dX4_closest_29 : decode cX4_closest 29 = .ok (.aload_n 0, 1) := by decide +kernel
theorem dX4_closest_30 : decode cX4_closest 30 = .ok (.getfield 9, 3) := by decide +kernel
theorem dX4_closest_33 : decode cX4_closest 33 = .ok (.iconst 1, 1) := by decide +kernel
theorem dX4_closest_34 : decode cX4_closest 34 = .ok (.iaload, 1) := by decide +kernel
theorem dX4_closest_35 : decode cX4_closest 35 = .ok (.if_icmp .ge 31, 3) := by decide +kernel
theorem dX4_closest_38 : decode cX4_closest 38 = .ok (.aload_n 0, 1) := by decide +kernel
theorem dX4_closest_39 : decode cX4_closest 39 = .ok (.iload_n 1, 1) := by decide +kernel
theorem dX4_closest_40 : decode cX4_closest 40 = .ok (.iload_n 3, 1) := by decide +kernel
theorem dX4_closest_41 : decode cX4_closest 41 = .ok (.invokevirtual 160, 3) := by decide +kernel
theorem dX4_closest_44 : decode cX4_closest 44 = .ok (.aload_n 0, 1) := by decide +kernel
theorem dX4_closest_45 : decode cX4_closest 45 = .ok (.iload_n 1, 1) := by decide +kernel
theorem dX4_closest_46 : decode cX4_closest 46 = .ok (.iload_n 2, 1) := by decide +kernel
theorem dX4_closest_47 : decode cX4_closest 47 = .ok (.invokevirtual 160, 3) := by decide +kernel
theorem dX4_closest_50 : decode cX4_closest 50 = .ok (.fcmp .g, 1) := by decide +kernel
theorem dX4_closest_51 : decode cX4_closest 51 = .ok (.ifCond .ge 7, 3) := by decide +kernel
theorem dX4_closest_54 : decode cX4_closest 54 = .ok (.iload_n 3, 1) := by decide +kernel
theorem dX4_closest_55 : decode cX4_closest 55 = .ok (.goto 4, 3) := by decide +kernel
theorem dX4_closest_58 : decode cX4_closest 58 = .ok (.iload_n 2, 1) := by decide +kernel
theorem dX4_closest_59 : decode cX4_closest 59 = .ok (.istore_n 2, 1) := by decide +kernel
theorem dX4_closest_60 : decode cX4_closest 60 = .ok (.iinc 3 1, 3) := by decide +kernel
theorem dX4_closest_63 : decode cX4_closest 63 = .ok (.goto (-35), 3) := by decide +kernel
theorem dX4_closest_66 : decode cX4_closest 66 = .ok (.iload_n 2, 1) := by decide +kernel
theorem dX4_closest_67 : decode cX4_closest 67 = .ok (.ireturn, 1) := by decide +kernel
theorem dX4_knows_0 : decode cX4_knows 0 = .ok (.aload_n 0, 1) := by decide +kernel
theorem dX4_knows_1 : decode cX4_knows 1 = .ok (.aload_n 0, 1) := by decide +kernel
theorem dX4_knows_2 : decode cX4_knows 2 = .ok (.iload_n 1, 1) := by decide +kernel
theorem dX4_knows_3 : decode cX4_knows 3 = .ok (.invokevirtual 86, 3) := by decide +kernel
theorem dX4_knows_6 : decode cX4_knows 6 = .ok (.ifCond .eq 15, 3) := by decide +kernel
theorem dX4_knows_9 : decode cX4_knows 9 = .ok (.aload_n 0, 1) := by decide +kernel
theorem dX4_knows_10 : decode cX4_knows 10 = .ok (.iload_n 2, 1) := by decide +kernel
theorem dX4_knows_11 : decode cX4_knows 11 = .ok (.invokevirtual 104, 3) := by decide +kernel
theorem dX4_knows_14 : decode cX4_knows 14 = .ok (.ifCond .eq 7, 3) := by decide +kernel
theorem dX4_knows_17 : decode cX4_knows 17 = .ok (.iconst 0, 1) := by decide +kernel
theorem dX4_knows_18 : decode cX4_knows 18 = .ok (.goto 4, 3) := by decide +kernel
theorem dX4_knows_21 : decode cX4_knows 21 = .ok (.iconst 1, 1) := by decide +kernel
theorem dX4_knows_22 : decode cX4_knows 22 = .ok (.putfield 39, 3) := by decide +kernel
theorem dX4_knows_25 : decode cX4_knows 25 = .ok (.aload_n 0, 1) := by decide +kernel
theorem dX4_knows_26 : decode cX4_knows 26 = .ok (.getfield 39, 3) := by decide +kernel
theorem dX4_knows_29 : decode cX4_knows 29 = .ok (.ifCond .le 7, 3) := by decide +kernel
theorem dX4_knows_32 : decode cX4_knows 32 = .ok (.fconst 0, 1) := by decide +kernel
theorem dX4_knows_33 : decode cX4_knows 33 = .ok (.goto 9, 3) := by decide +kernel
theorem dX4_knows_36 : decode cX4_knows 36 = .ok (.aload_n 0, 1) := by decide +kernel
theorem dX4_knows_37 : decode cX4_knows 37 = .ok (.iload_n 1, 1) := by decide +kernel
theorem dX4_knows_38 : decode cX4_knows 38 = .ok (.iload_n 2, 1) := by decide +kernel
theorem dX4_knows_39 : decode cX4_knows 39 = .ok (.invokevirtual 160, 3) := by decide +kernel
theorem dX4_knows_42 : decode cX4_knows 42 = .ok (.freturn, 1) := by decide +kernel
theorem dX4_taught_0 : decode cX4_taught 0 = .ok (.aload_n 0, 1) := by decide +kernel
theorem dX4_taught_1 : decode cX4_taught 1 = .ok (.getfield 9, 3) := by decide +kernel
theorem dX4_taught_4 : decode cX4_taught 4 = .ok (.iload_n 1, 1) := by decide +kernel
theorem dX4_taught_5 : decode cX4_taught 5 = .ok (.iconst 5, 1) := by decide +kernel
theorem dX4_taught_6 : decode cX4_taught 6 = .ok (.invokestatic 73, 3) := by decide +kernel
theorem dX4_taught_9 : decode cX4_taught 9 = .ok (.dup2, 1) := by decide +kernel
theorem dX4_taught_10 : decode cX4_taught 10 = .ok (.iaload, 1) := by decide +kernel
theorem dX4_taught_11 : decode cX4_taught 11 = .ok (.iconst 1, 1) := by decide +kernel
theorem dX4_taught_12 : decode cX4_taught 12 = .ok (.iadd, 1) := by decide +kernel
theorem dX4_taught_13 : decode cX4_taught 13 = .ok (.iastore, 1) := by decide +kernel
theorem dX4_taught_14 : decode cX4_taught 14 = .ok (.aload_n 0, 1) := by decide +kernel
theorem dX4_taught_15 : decode cX4_taught 15 = .ok (.iload_n 1, 1) := by decide +kernel
theorem dX4_taught_16 : decode cX4_taught 16 = .ok (.iload_n 2, 1) := by decide +kernel
theorem dX4_taught_17 : decode cX4_taught 17 = .ok (.invokevirtual 163, 3) := by decide +kernel
theorem dX4_taught_20 : decode cX4_taught 20 = .ok (.ifCond .ne 5, 3) := by decide +kernel
theorem dX4_taught_23 : decode cX4_taught 23 = .ok (.iconst 0, 1) := by decide +kernel
theorem dX4_taught_24 : decode cX4_taught 24 = .ok (.ireturn, 1) := by decide +kernel
theorem dX4_taught_25 : decode cX4_taught 25 = .ok (.aload_n 0, 1) := by decide +kernel
theorem dX4_taught_26 : decode cX4_taught 26 = .ok (.iload_n 2, 1) := by decide +kernel
theorem dX4_taught_27 : decode cX4_taught 27 = .ok (.invokevirtual 128, 3) := by decide +kernel
theorem dX4_taught_30 : decode cX4_taught 30 = .ok (.ifCond .eq 16, 3) := by decide +kernel
theorem dX4_taught_33 : decode cX4_taught 33 = .ok (.aload_n 0, 1) := by decide +kernel
theorem dX4_taught_34 : decode cX4_taught 34 = .ok (.getfield 9, 3) := by decide +kernel
theorem dX4_taught_37 : decode cX4_taught 37 = .ok (.iload_n 1, 1) := by decide +kernel
theorem dX4_taught_38 : decode cX4_taught 38 = .ok (.iconst 0, 1) := by decide +kernel
theorem dX4_taught_39 : decode cX4_taught 39 = .ok (.invokestatic 73, 3) := by decide +kernel
theorem dX4_taught_42 : decode cX4_taught 42 = .ok (.iaload, 1) := by decide +kernel
theorem dX4_taught_43 : decode cX4_taught 43 = .ok (.goto 14, 3) := by decide +kernel
theorem dX4_taught_46 : decode cX4_taught 46 = .ok (.aload_n 0, 1) := by decide +kernel
theorem dX4_taught_47 : decode cX4_taught 47 = .ok (.getfield 9, 3) := by decide +kernel
theorem dX4_taught_50 : decode cX4_taught 50 = .ok (.iload_n 1, 1) := by decide +kernel
theorem dX4_taught_51 : decode cX4_taught 51 = .ok (.iconst 0, 1) := by decide +kernel
theorem dX4_taught_52 : decode cX4_taught 52 = .ok (.invokestatic 73, 3) := by decide +kernel
theorem dX4_taught_55 : decode cX4_taught 55 = .ok (.iaload, 1) := by decide +kernel
theorem dX4_taught_56 : decode cX4_taught 56 = .ok (.ineg, 1) := by decide +kernel
theorem dX4_taught_57 : decode cX4_taught 57 = .ok (.istore_n 3, 1) := by decide +kernel
theorem dX4_taught_58 : decode cX4_taught 58 = .ok (.iconst (-1), 1) := by decide +kernel
theorem dX4_taught_59 : decode cX4_taught 59 = .ok (.istore 4, 2) := by decide +kernel
theorem dX4_taught_61 : decode cX4_taught 61 = .ok (.iload 4, 2) := by decide +kernel
theorem dX4_taught_63 : decode cX4_taught 63 = .ok (.bipush 10, 2) := by decide +kernel
theorem dX4_taught_65 : decode cX4_taught 65 = .ok (.if_icmp .ge 61, 3) := by decide +kernel
theorem dX4_taught_68 : decode cX4_taught 68 = .ok (.aload_n 0, 1) := by decide +kernel
theorem dX4_taught_69 : decode cX4_taught 69 = .ok (.iload_n 2, 1) := by decide +kernel
theorem dX4_taught_70 : decode cX4_taught 70 = .ok (.invokevirtual 97, 3) := by decide +kernel
theorem dX4_taught_73 : decode cX4_taught 73 = .ok (.iload 4, 2) := by decide +kernel
theorem dX4_taught_75 : decode cX4_taught 75 = .ok (.invokestatic 118, 3) := by decide +kernel
theorem dX4_taught_78 : decode cX4_taught 78 = .ok (.ifCond .eq 42, 3) := by decide +kernel
theorem dX4_taught_81 : decode cX4_taught 81 = .ok (.aload_n 0, 1) := by decide +kernel
theorem dX4_taught_82 : decode cX4_taught 82 = .ok (.iload_n 1, 1) := by decide +kernel
theorem dX4_taught_83 : decode cX4_taught 83 = .ok (.iload 4, 2) := by decide +kernel
theorem dX4_taught_85 : decode cX4_taught 85 = .ok (.invokevirtual 110, 3) := by decide +kernel
theorem dX4_taught_88 : decode cX4_taught 88 = .ok (.iload_n 3, 1) := by decide +kernel
theorem dX4_taught_89 : decode cX4_taught 89 = .ok (.iadd, 1) := by decide +kernel
theorem dX4_taught_90 : decode cX4_taught 90 = .ok (.istore 5, 2) := by decide +kernel
theorem dX4_taught_92 : decode cX4_taught 92 = .ok (.aload_n 0, 1) := by decide +kernel
theorem dX4_taught_93 : decode cX4_taught 93 = .ok (.getfield 9, 3) := by decide +kernel
theorem dX4_taught_96 : decode cX4_taught 96 = .ok (.iload_n 1, 1) := by decide +kernel
theorem dX4_taught_97 : decode cX4_taught 97 = .ok (.bipush 7, 2) := by decide +kernel
theorem dX4_taught_99 : decode cX4_taught 99 = .ok (.iload 4, 2) := by decide +kernel
theorem dX4_taught_101 : decode cX4_taught 101 = .ok (.iadd, 1) := by decide +kernel
theorem dX4_taught_102 : decode cX4_taught 102 = .ok (.invokestatic 73, 3) := by decide +kernel
theorem dX4_taught_105 : decode cX4_taught 105 = .ok (.iload 5, 2) := by decide +kernel
theorem dX4_taught_107 : decode cX4_taught 107 = .ok (.iastore, 1) := by decide +kernel
theorem dX4_taught_108 : decode cX4_taught 108 = .ok (.iload 5, 2) := by decide +kernel
theorem dX4_taught_110 : decode cX4_taught 110 = .ok (.invokestatic 166, 3) := by decide +kernel
theorem dX4_taught_113 : decode cX4_taught 113 = .ok (.ldc 171, 2) := by decide +kernel
theorem dX4_taught_115 : decode cX4_taught 115 = .ok (.if_icmp .le 5, 3) := by decide +kernel
theorem dX4_taught_118 : decode cX4_taught 118 = .ok (.iconst (-1), 1) := by decide +kernel
theorem dX4_taught_119 : decode cX4_taught 119 = .ok (.ireturn, 1) := by decide +kernel
theorem dX4_taught_120 : decode cX4_taught 120 = .ok (.iinc 4 1, 3) := by decide +kernel
theorem dX4_taught_123 : decode cX4_taught 123 = .ok (.goto (-62), 3) := by decide +kernel
theorem dX4_taught_126 : decode cX4_taught 126 = .ok (.aload_n 0, 1) := by decide +kernel
theorem dX4_taught_127 : decode cX4_taught 127 = .ok (.getfield 9, 3) := by decide +kernel
theorem dX4_taught_130 : decode cX4_taught 130 = .ok (.iload_n 1, 1) := by decide +kernel
theorem dX4_taught_131 : decode cX4_taught 131 = .ok (.iconst 3, 1) := by decide +kernel
theorem dX4_taught_132 : decode cX4_taught 132 = .ok (.invokestatic 73, 3) := by decide +kernel
theorem dX4_taught_135 : decode cX4_taught 135 = .ok (.dup2, 1) := by decide +kernel
theorem dX4_taught_136 : decode cX4_taught 136 = .ok (.iaload, 1) := by decide +kernel
theorem dX4_taught_137 : decode cX4_taught 137 = .ok (.iconst 1, 1) := by decide +kernel
theorem dX4_taught_138 : decode cX4_taught 138 = .ok (.iadd, 1) := by decide +kernel
theorem dX4_taught_139 : decode cX4_taught 139 = .ok (.iastore, 1) := by decide +kernel
theorem dX4_taught_140 : decode cX4_taught 140 = .ok (.iconst 1, 1) := by decide +kernel
theorem dX4_taught_141 : decode cX4_taught 141 = .ok (.ireturn, 1) := by decide +kernel
theorem dX4_doTeach_0 : decode cX4_doTeach 0 = .ok (.aload_n 0, 1) := by decide +kernel
theorem dX4_doTeach_1 : decode cX4_doTeach 1 = .ok (.iload_n 1, 1) := by decide +kernel
theorem dX4_doTeach_2 : decode cX4_doTeach 2 = .ok (.invokevirtual 86, 3) := by decide +kernel
theorem dX4_doTeach_5 : decode cX4_doTeach 5 = .ok (.ifCond .eq 11, 3) := by decide +kernel
theorem dX4_doTeach_8 : decode cX4_doTeach 8 = .ok (.aload_n 0, 1) := by decide +kernel
theorem dX4_doTeach_9 : decode cX4_doTeach 9 = .ok (.iload_n 2, 1) := by decide +kernel
theorem dX4_doTeach_10 : decode cX4_doTeach 10 = .ok (.invokevirtual 104, 3) := by decide +kernel
theorem dX4_doTeach_13 : decode cX4_doTeach 13 = .ok (.ifCond .ne 9, 3) := by decide +kernel
theorem dX4_doTeach_16 : decode cX4_doTeach 16 = .ok (.aload_n 0, 1) := by decide +kernel
theorem dX4_doTeach_17 : decode cX4_doTeach 17 = .ok (.iconst 1, 1) := by decide +kernel
theorem dX4_doTeach_18 : decode cX4_doTeach 18 = .ok (.invokevirtual 65, 3) := by decide +kernel
theorem dX4_doTeach_21 : decode cX4_doTeach 21 = .ok (.ireturn, 1) := by decide +kernel
theorem dX4_doTeach_22 : decode cX4_doTeach 22 = .ok (.aload_n 0, 1) := by decide +kernel
theorem dX4_doTeach_23 : decode cX4_doTeach 23 = .ok (.iload_n 1, 1) := by decide +kernel
theorem dX4_doTeach_24 : decode cX4_doTeach 24 = .ok (.iload_n 2, 1) := by decide +kernel
theorem dX4_doTeach_25 : decode cX4_doTeach 25 = .ok (.invokevirtual 172, 3) := by decide +kernel
theorem dX4_doTeach_28 : decode cX4_doTeach 28 = .ok (.istore_n 3, 1) := by decide +kernel
theorem dX4_doTeach_29 : decode cX4_doTeach 29 = .ok (.iload_n 3, 1) := by decide +kernel
theorem dX4_doTeach_30 : decode cX4_doTeach 30 = .ok (.ifCond .ge 13, 3) := by decide +kernel
theorem dX4_doTeach_33 : decode cX4_doTeach 33 = .ok (.aload_n 0, 1) := by decide +kernel
theorem dX4_doTeach_34 : decode cX4_doTeach 34 = .ok (.iconst 2, 1) := by decide +kernel
theorem dX4_doTeach_35 : decode cX4_doTeach 35 = .ok (.iconst 5, 1) := by decide +kernel
theorem dX4_doTeach_36 : decode cX4_doTeach 36 = .ok (.iload_n 1, 1) := by decide +kernel
theorem dX4_doTeach_37 : decode cX4_doTeach 37 = .ok (.invokevirtual 69, 3) := by decide +kernel
theorem dX4_doTeach_40 : decode cX4_doTeach 40 = .ok (.goto 4, 3) := by decide +kernel
theorem dX4_doTeach_43 : decode cX4_doTeach 43 = .ok (.iload_n 3, 1) := by decide +kernel
theorem dX4_doTeach_44 : decode cX4_doTeach 44 = .ok (.ireturn, 1) := by decide +kernel
theorem dX4_teach_0 : decode cX4_teach 0 = .ok (.aload_n 0, 1) := by decide +kernel
theorem dX4_teach_1 : decode cX4_teach 1 = .ok (.invokevirtual 77, 3) := by decide +kernel
theorem dX4_teach_4 : decode cX4_teach 4 = .ok (.aload_n 0, 1) := by decide +kernel
theorem dX4_teach_5 : decode cX4_teach 5 = .ok (.aload_n 0, 1) := by decide +kernel
theorem dX4_teach_6 : decode cX4_teach 6 = .ok (.iload_n 1, 1) := by decide +kernel
theorem dX4_teach_7 : decode cX4_teach 7 = .ok (.iload_n 2, 1) := by decide +kernel
theorem dX4_teach_8 : decode cX4_teach 8 = .ok (.invokevirtual 175, 3) := by decide +kernel
theorem dX4_teach_11 : decode cX4_teach 11 = .ok (.invokevirtual 83, 3) := by decide +kernel
theorem dX4_teach_14 : decode cX4_teach 14 = .ok (.ireturn, 1) := by decide +kernel
theorem dX4_goesBy_0 : decode cX4_goesBy 0 = .ok (.iconst 0, 1) := by decide +kernel
theorem dX4_goesBy_1 : decode cX4_goesBy 1 = .ok (.istore_n 2, 1) := by decide +kernel
theorem dX4_goesBy_2 : decode cX4_goesBy 2 = .ok (.iconst 0, 1) := by decide +kernel
theorem dX4_goesBy_3 : decode cX4_goesBy 3 = .ok (.istore_n 3, 1) := by decide +kernel
theorem dX4_goesBy_4 : decode cX4_goesBy 4 = .ok (.iload_n 3, 1) := by decide +kernel
theorem dX4_goesBy_5 : decode cX4_goesBy 5 = .ok (.aload_n 0, 1) := by decide +kernel
theorem dX4_goesBy_6 : decode cX4_goesBy 6 = .ok (.getfield 9, 3) := by decide +kernel
theorem dX4_goesBy_9 : decode cX4_goesBy 9 = .ok (.iconst 1, 1) := by decide +kernel
theorem dX4_goesBy_10 : decode cX4_goesBy 10 = .ok (.iaload, 1) := by decide +kernel
theorem dX4_goesBy_11 : decode cX4_goesBy 11 = .ok (.if_icmp .ge 29, 3) := by decide +kernel
theorem dX4_goesBy_14 : decode cX4_goesBy 14 = .ok (.aload_n 0, 1) := by decide +kernel
theorem dX4_goesBy_15 : decode cX4_goesBy 15 = .ok (.iload_n 1, 1) := by decide +kernel
theorem dX4_goesBy_16 : decode cX4_goesBy 16 = .ok (.iload_n 3, 1) := by decide +kernel
theorem dX4_goesBy_17 : decode cX4_goesBy 17 = .ok (.invokevirtual 172, 3) := by decide +kernel
theorem dX4_goesBy_20 : decode cX4_goesBy 20 = .ok (.istore 4, 2) := by decide +kernel
theorem dX4_goesBy_22 : decode cX4_goesBy 22 = .ok (.iload 4, 2) := by decide +kernel
theorem dX4_goesBy_24 : decode cX4_goesBy 24 = .ok (.ifCond .ge 5, 3) := by decide +kernel
theorem dX4_goesBy_27 : decode cX4_goesBy 27 = .ok (.iconst (-1), 1) := by decide +kernel
theorem dX4_goesBy_28 : decode cX4_goesBy 28 = .ok (.ireturn, 1) := by decide +kernel
theorem dX4_goesBy_29 : decode cX4_goesBy 29 = .ok (.iload_n 2, 1) := by decide +kernel
theorem dX4_goesBy_30 : decode cX4_goesBy 30 = .ok (.iload 4, 2) := by decide +kernel
theorem dX4_goesBy_32 : decode cX4_goesBy 32 = .ok (.iadd, 1) := by decide +kernel
theorem dX4_goesBy_33 : decode cX4_goesBy 33 = .ok (.istore_n 2, 1) := by decide +kernel
theorem dX4_goesBy_34 : decode cX4_goesBy 34 = .ok (.iinc 3 1, 3) := by decide +kernel
theorem dX4_goesBy_37 : decode cX4_goesBy 37 = .ok (.goto (-33), 3) := by decide +kernel
theorem dX4_goesBy_40 : decode cX4_goesBy 40 = .ok (.iconst 0, 1) := by decide +kernel
theorem dX4_goesBy_41 : decode cX4_goesBy 41 = .ok (.istore_n 3, 1) := by decide +kernel
theorem dX4_goesBy_42 : decode cX4_goesBy 42 = .ok (.iload_n 3, 1) := by decide +kernel
theorem dX4_goesBy_43 : decode cX4_goesBy 43 = .ok (.bipush 10, 2) := by decide +kernel
theorem dX4_goesBy_45 : decode cX4_goesBy 45 = .ok (.if_icmp .ge 52, 3) := by decide +kernel
theorem dX4_goesBy_48 : decode cX4_goesBy 48 = .ok (.aload_n 0, 1) := by decide +kernel
theorem dX4_goesBy_49 : decode cX4_goesBy 49 = .ok (.getfield 9, 3) := by decide +kernel
theorem dX4_goesBy_52 : decode cX4_goesBy 52 = .ok (.iload_n 1, 1) := by decide +kernel
theorem dX4_goesBy_53 : decode cX4_goesBy 53 = .ok (.bipush 17, 2) := by decide +kernel
theorem dX4_goesBy_55 : decode cX4_goesBy 55 = .ok (.iload_n 3, 1) := by decide +kernel
theorem dX4_goesBy_56 : decode cX4_goesBy 56 = .ok (.iadd, 1) := by decide +kernel
theorem dX4_goesBy_57 : decode cX4_goesBy 57 = .ok (.invokestatic 73, 3) := by decide +kernel
theorem dX4_goesBy_60 : decode cX4_goesBy 60 = .ok (.iaload, 1) := by decide +kernel
theorem dX4_goesBy_61 : decode cX4_goesBy 61 = .ok (.invokestatic 156, 3) := by decide +kernel
theorem dX4_goesBy_64 : decode cX4_goesBy 64 = .ok (.aload_n 0, 1) := by decide +kernel
theorem dX4_goesBy_65 : decode cX4_goesBy 65 = .ok (.iload_n 1, 1) := by decide +kernel
theorem dX4_goesBy_66 : decode cX4_goesBy 66 = .ok (.iload_n 3, 1) := by decide +kernel
theorem dX4_goesBy_67 : decode cX4_goesBy 67 = .ok (.invokevirtual 114, 3) := by decide +kernel
theorem dX4_goesBy_70 : decode cX4_goesBy 70 = .ok (.fadd, 1) := by decide +kernel
theorem dX4_goesBy_71 : decode cX4_goesBy 71 = .ok (.fstore 4, 2) := by decide +kernel
theorem dX4_goesBy_73 : decode cX4_goesBy 73 = .ok (.aload_n 0, 1) := by decide +kernel
theorem dX4_goesBy_74 : decode cX4_goesBy 74 = .ok (.getfield 9, 3) := by decide +kernel
theorem dX4_goesBy_77 : decode cX4_goesBy 77 = .ok (.iload_n 1, 1) := by decide +kernel
theorem dX4_goesBy_78 : decode cX4_goesBy 78 = .ok (.bipush 17, 2) := by decide +kernel
theorem dX4_goesBy_80 : decode cX4_goesBy 80 = .ok (.iload_n 3, 1) := by decide +kernel
theorem dX4_goesBy_81 : decode cX4_goesBy 81 = .ok (.iadd, 1) := by decide +kernel
theorem dX4_goesBy_82 : decode cX4_goesBy 82 = .ok (.invokestatic 73, 3) := by decide +kernel
theorem dX4_goesBy_85 : decode cX4_goesBy 85 = .ok (.fload 4, 2) := by decide +kernel
theorem dX4_goesBy_87 : decode cX4_goesBy 87 = .ok (.invokestatic 150, 3) := by decide +kernel
theorem dX4_goesBy_90 : decode cX4_goesBy 90 = .ok (.iastore, 1) := by decide +kernel
theorem dX4_goesBy_91 : decode cX4_goesBy 91 = .ok (.iinc 3 1, 3) := by decide +kernel
theorem dX4_goesBy_94 : decode cX4_goesBy 94 = .ok (.goto (-52), 3) := by decide +kernel
theorem dX4_goesBy_97 : decode cX4_goesBy 97 = .ok (.aload_n 0, 1) := by decide +kernel
theorem dX4_goesBy_98 : decode cX4_goesBy 98 = .ok (.getfield 9, 3) := by decide +kernel
theorem dX4_goesBy_101 : decode cX4_goesBy 101 = .ok (.iload_n 1, 1) := by decide +kernel
theorem dX4_goesBy_102 : decode cX4_goesBy 102 = .ok (.iconst 2, 1) := by decide +kernel
theorem dX4_goesBy_103 : decode cX4_goesBy 103 = .ok (.invokestatic 73, 3) := by decide +kernel
theorem dX4_goesBy_106 : decode cX4_goesBy 106 = .ok (.dup2, 1) := by decide +kernel
theorem dX4_goesBy_107 : decode cX4_goesBy 107 = .ok (.iaload, 1) := by decide +kernel
theorem dX4_goesBy_108 : decode cX4_goesBy 108 = .ok (.iconst 1, 1) := by decide +kernel
theorem dX4_goesBy_109 : decode cX4_goesBy 109 = .ok (.iadd, 1) := by decide +kernel
theorem dX4_goesBy_110 : decode cX4_goesBy 110 = .ok (.iastore, 1) := by decide +kernel
theorem dX4_goesBy_111 : decode cX4_goesBy 111 = .ok (.aload_n 0, 1) := by decide +kernel
theorem dX4_goesBy_112 : decode cX4_goesBy 112 = .ok (.getfield 9, 3) := by decide +kernel
theorem dX4_goesBy_115 : decode cX4_goesBy 115 = .ok (.iload_n 1, 1) := by decide +kernel
theorem dX4_goesBy_116 : decode cX4_goesBy 116 = .ok (.iconst 4, 1) := by decide +kernel
theorem dX4_goesBy_117 : decode cX4_goesBy 117 = .ok (.invokestatic 73, 3) := by decide +kernel
theorem dX4_goesBy_120 : decode cX4_goesBy 120 = .ok (.iload_n 2, 1) := by decide +kernel
theorem dX4_goesBy_121 : decode cX4_goesBy 121 = .ok (.iastore, 1) := by decide +kernel
theorem dX4_goesBy_122 : decode cX4_goesBy 122 = .ok (.iload_n 2, 1) := by decide +kernel
theorem dX4_goesBy_123 : decode cX4_goesBy 123 = .ok (.ireturn, 1) := by decide +kernel
theorem dX4_doDay_0 : decode cX4_doDay 0 = .ok (.aload_n 0, 1) := by decide +kernel
theorem dX4_doDay_1 : decode cX4_doDay 1 = .ok (.iload_n 1, 1) := by decide +kernel
theorem dX4_doDay_2 : decode cX4_doDay 2 = .ok (.invokevirtual 86, 3) := by decide +kernel
theorem dX4_doDay_5 : decode cX4_doDay 5 = .ok (.ifCond .ne 9, 3) := by decide +kernel
theorem dX4_doDay_8 : decode cX4_doDay 8 = .ok (.aload_n 0, 1) := by decide +kernel
theorem dX4_doDay_9 : decode cX4_doDay 9 = .ok (.iconst 1, 1) := by decide +kernel
theorem dX4_doDay_10 : decode cX4_doDay 10 = .ok (.invokevirtual 65, 3) := by decide +kernel
theorem dX4_doDay_13 : decode cX4_doDay 13 = .ok (.ireturn, 1) := by decide +kernel
theorem dX4_doDay_14 : decode cX4_doDay 14 = .ok (.aload_n 0, 1) := by decide +kernel
theorem dX4_doDay_15 : decode cX4_doDay 15 = .ok (.getfield 9, 3) := by decide +kernel
theorem dX4_doDay_18 : decode cX4_doDay 18 = .ok (.iconst 1, 1) := by decide +kernel
theorem dX4_doDay_19 : decode cX4_doDay 19 = .ok (.iaload, 1) := by decide +kernel
theorem dX4_doDay_20 : decode cX4_doDay 20 = .ok (.ifCond .ne 16, 3) := by decide +kernel
theorem dX4_doDay_23 : decode cX4_doDay 23 = .ok (.aload_n 0, 1) := by decide +kernel
theorem dX4_doDay_24 : decode cX4_doDay 24 = .ok (.iconst 2, 1) := by decide +kernel
theorem dX4_doDay_25 : decode cX4_doDay 25 = .ok (.iconst 3, 1) := by decide +kernel
theorem dX4_doDay_26 : decode cX4_doDay 26 = .ok (.aload_n 0, 1) := by decide +kernel
theorem dX4_doDay_27 : decode cX4_doDay 27 = .ok (.getfield 9, 3) := by decide +kernel
theorem dX4_doDay_30 : decode cX4_doDay 30 = .ok (.iconst 0, 1) := by decide +kernel
theorem dX4_doDay_31 : decode cX4_doDay 31 = .ok (.iaload, 1) := by decide +kernel
theorem dX4_doDay_32 : decode cX4_doDay 32 = .ok (.invokevirtual 69, 3) := by decide +kernel
theorem dX4_doDay_35 : decode cX4_doDay 35 = .ok (.ireturn, 1) := by decide +kernel
theorem dX4_doDay_36 : decode cX4_doDay 36 = .ok (.aload_n 0, 1) := by decide +kernel
theorem dX4_doDay_37 : decode cX4_doDay 37 = .ok (.iload_n 1, 1) := by decide +kernel
theorem dX4_doDay_38 : decode cX4_doDay 38 = .ok (.invokevirtual 178, 3) := by decide +kernel
theorem dX4_doDay_41 : decode cX4_doDay 41 = .ok (.istore_n 2, 1) := by decide +kernel
theorem dX4_doDay_42 : decode cX4_doDay 42 = .ok (.iload_n 2, 1) := by decide +kernel
theorem dX4_doDay_43 : decode cX4_doDay 43 = .ok (.ifCond .ge 13, 3) := by decide +kernel
theorem dX4_doDay_46 : decode cX4_doDay 46 = .ok (.aload_n 0, 1) := by decide +kernel
theorem dX4_doDay_47 : decode cX4_doDay 47 = .ok (.iconst 2, 1) := by decide +kernel
theorem dX4_doDay_48 : decode cX4_doDay 48 = .ok (.iconst 5, 1) := by decide +kernel
theorem dX4_doDay_49 : decode cX4_doDay 49 = .ok (.iload_n 1, 1) := by decide +kernel
theorem dX4_doDay_50 : decode cX4_doDay 50 = .ok (.invokevirtual 69, 3) := by decide +kernel
theorem dX4_doDay_53 : decode cX4_doDay 53 = .ok (.goto 4, 3) := by decide +kernel
theorem dX4_doDay_56 : decode cX4_doDay 56 = .ok (.iload_n 2, 1) := by decide +kernel
theorem dX4_doDay_57 : decode cX4_doDay 57 = .ok (.ireturn, 1) := by decide +kernel
theorem dX4_day_0 : decode cX4_day 0 = .ok (.aload_n 0, 1) := by decide +kernel
theorem dX4_day_1 : decode cX4_day 1 = .ok (.invokevirtual 77, 3) := by decide +kernel
theorem dX4_day_4 : decode cX4_day 4 = .ok (.aload_n 0, 1) := by decide +kernel
theorem dX4_day_5 : decode cX4_day 5 = .ok (.aload_n 0, 1) := by decide +kernel
theorem dX4_day_6 : decode cX4_day 6 = .ok (.iload_n 1, 1) := by decide +kernel
theorem dX4_day_7 : decode cX4_day 7 = .ok (.invokevirtual 181, 3) := by decide +kernel
theorem dX4_day_10 : decode cX4_day 10 = .ok (.invokevirtual 83, 3) := by decide +kernel
theorem dX4_day_13 : decode cX4_day 13 = .ok (.ireturn, 1) := by decide +kernel
theorem dX4_doDays_0 : decode cX4_doDays 0 = .ok (.aload_n 0, 1) := by decide +kernel
theorem dX4_doDays_1 : decode cX4_doDays 1 = .ok (.iload_n 1, 1) := by decide +kernel
theorem dX4_doDays_2 : decode cX4_doDays 2 = .ok (.iload_n 2, 1) := by decide +kernel
theorem dX4_doDays_3 : decode cX4_doDays 3 = .ok (.iconst 1, 1) := by decide +kernel
theorem dX4_doDays_4 : decode cX4_doDays 4 = .ok (.bipush 30, 2) := by decide +kernel
theorem dX4_doDays_6 : decode cX4_doDays 6 = .ok (.invokestatic 61, 3) := by decide +kernel
theorem dX4_doDays_9 : decode cX4_doDays 9 = .ok (.invokevirtual 146, 3) := by decide +kernel
theorem dX4_doDays_12 : decode cX4_doDays 12 = .ok (.ifCond .ne 5, 3) := by decide +kernel
theorem dX4_doDays_15 : decode cX4_doDays 15 = .ok (.iconst 0, 1) := by decide +kernel
theorem dX4_doDays_16 : decode cX4_doDays 16 = .ok (.ireturn, 1) := by decide +kernel
theorem dX4_doDays_17 : decode cX4_doDays 17 = .ok (.aload_n 0, 1) := by decide +kernel
theorem dX4_doDays_18 : decode cX4_doDays 18 = .ok (.getfield 9, 3) := by decide +kernel
theorem dX4_doDays_21 : decode cX4_doDays 21 = .ok (.iconst 1, 1) := by decide +kernel
theorem dX4_doDays_22 : decode cX4_doDays 22 = .ok (.iaload, 1) := by decide +kernel
theorem dX4_doDays_23 : decode cX4_doDays 23 = .ok (.ifCond .ne 16, 3) := by decide +kernel
theorem dX4_doDays_26 : decode cX4_doDays 26 = .ok (.aload_n 0, 1) := by decide +kernel
theorem dX4_doDays_27 : decode cX4_doDays 27 = .ok (.iconst 3, 1) := by decide +kernel
theorem dX4_doDays_28 : decode cX4_doDays 28 = .ok (.iconst 3, 1) := by decide +kernel
theorem dX4_doDays_29 : decode cX4_doDays 29 = .ok (.aload_n 0, 1) := by decide +kernel
theorem dX4_doDays_30 : decode cX4_doDays 30 = .ok (.getfield 9, 3) := by decide +kernel
theorem dX4_doDays_33 : decode cX4_doDays 33 = .ok (.iconst 0, 1) := by decide +kernel
theorem dX4_doDays_34 : decode cX4_doDays 34 = .ok (.iaload, 1) := by decide +kernel
theorem dX4_doDays_35 : decode cX4_doDays 35 = .ok (.invokevirtual 69, 3) := by decide +kernel
theorem dX4_doDays_38 : decode cX4_doDays 38 = .ok (.ireturn, 1) := by decide +kernel
theorem dX4_doDays_39 : decode cX4_doDays 39 = .ok (.iconst 0, 1) := by decide +kernel
theorem dX4_doDays_40 : decode cX4_doDays 40 = .ok (.istore_n 3, 1) := by decide +kernel
theorem dX4_doDays_41 : decode cX4_doDays 41 = .ok (.iconst 1, 1) := by decide +kernel
theorem dX4_doDays_42 : decode cX4_doDays 42 = .ok (.istore 4, 2) := by decide +kernel
theorem dX4_doDays_44 : decode cX4_doDays 44 = .ok (.iload_n 3, 1) := by decide +kernel
theorem dX4_doDays_45 : decode cX4_doDays 45 = .ok (.iload_n 2, 1) := by decide +kernel
theorem dX4_doDays_46 : decode cX4_doDays 46 = .ok (.if_icmp .ge 21, 3) := by decide +kernel
theorem dX4_doDays_49 : decode cX4_doDays 49 = .ok (.iload 4, 2) := by decide +kernel
theorem dX4_doDays_51 : decode cX4_doDays 51 = .ok (.ifCond .le 16, 3) := by decide +kernel
theorem dX4_doDays_54 : decode cX4_doDays 54 = .ok (.aload_n 0, 1) := by decide +kernel
theorem dX4_doDays_55 : decode cX4_doDays 55 = .ok (.iload_n 1, 1) := by decide +kernel
theorem dX4_doDays_56 : decode cX4_doDays 56 = .ok (.invokevirtual 178, 3) := by decide +kernel
theorem dX4_doDays_59 : decode cX4_doDays 59 = .ok (.istore 4, 2) := by decide +kernel
theorem dX4_doDays_61 : decode cX4_doDays 61 = .ok (.iinc 3 1, 3) := by decide +kernel
theorem dX4_doDays_64 : decode cX4_doDays 64 = .ok (.goto (-20), 3) := by decide +kernel
theorem dX4_doDays_67 : decode cX4_doDays 67 = .ok (.iload 4, 2) := by decide +kernel
theorem dX4_doDays_69 : decode cX4_doDays 69 = .ok (.ifCond .ge 13, 3) := by decide +kernel
theorem dX4_doDays_72 : decode cX4_doDays 72 = .ok (.aload_n 0, 1) := by decide +kernel
theorem dX4_doDays_73 : decode cX4_doDays 73 = .ok (.iconst 3, 1) := by decide +kernel
theorem dX4_doDays_74 : decode cX4_doDays 74 = .ok (.iconst 5, 1) := by decide +kernel
theorem dX4_doDays_75 : decode cX4_doDays 75 = .ok (.iload_n 1, 1) := by decide +kernel
theorem dX4_doDays_76 : decode cX4_doDays 76 = .ok (.invokevirtual 69, 3) := by decide +kernel
theorem dX4_doDays_79 : decode cX4_doDays 79 = .ok (.goto 4, 3) := by decide +kernel
theorem dX4_doDays_82 : decode cX4_doDays 82 = .ok (.iload_n 3, 1) := by decide +kernel
theorem dX4_doDays_83 : decode cX4_doDays 83 = .ok (.ireturn, 1) := by decide +kernel
theorem dX4_days_0 : decode cX4_days 0 = .ok (.aload_n 0, 1) := by decide +kernel
theorem dX4_days_1 : decode cX4_days 1 = .ok (.invokevirtual 77, 3) := by decide +kernel
theorem dX4_days_4 : decode cX4_days 4 = .ok (.aload_n 0, 1) := by decide +kernel
theorem dX4_days_5 : decode cX4_days 5 = .ok (.aload_n 0, 1) := by decide +kernel
theorem dX4_days_6 : decode cX4_days 6 = .ok (.iload_n 1, 1) := by decide +kernel
theorem dX4_days_7 : decode cX4_days 7 = .ok (.iload_n 2, 1) := by decide +kernel
theorem dX4_days_8 : decode cX4_days 8 = .ok (.invokevirtual 184, 3) := by decide +kernel
theorem dX4_days_11 : decode cX4_days 11 = .ok (.invokevirtual 83, 3) := by decide +kernel
theorem dX4_days_14 : decode cX4_days 14 = .ok (.ireturn, 1) := by decide +kernel
theorem dX4_wouldCalm_0 : decode cX4_wouldCalm 0 = .ok (.aload_n 0, 1) := by decide +kernel
theorem dX4_wouldCalm_1 : decode cX4_wouldCalm 1 = .ok (.iload_n 1, 1) := by decide +kernel
theorem dX4_wouldCalm_2 : decode cX4_wouldCalm 2 = .ok (.iload_n 2, 1) := by decide +kernel
theorem dX4_wouldCalm_3 : decode cX4_wouldCalm 3 = .ok (.iconst 1, 1) := by decide +kernel
theorem dX4_wouldCalm_4 : decode cX4_wouldCalm 4 = .ok (.bipush 30, 2) := by decide +kernel
theorem dX4_wouldCalm_6 : decode cX4_wouldCalm 6 = .ok (.invokestatic 61, 3) := by decide +kernel
theorem dX4_wouldCalm_9 : decode cX4_wouldCalm 9 = .ok (.invokevirtual 146, 3) := by decide +kernel
theorem dX4_wouldCalm_12 : decode cX4_wouldCalm 12 = .ok (.ifCond .ne 5, 3) := by decide +kernel
theorem dX4_wouldCalm_15 : decode cX4_wouldCalm 15 = .ok (.iconst 0, 1) := by decide +kernel
theorem dX4_wouldCalm_16 : decode cX4_wouldCalm 16 = .ok (.ireturn, 1) := by decide +kernel
theorem dX4_wouldCalm_17 : decode cX4_wouldCalm 17 = .ok (.aload_n 0, 1) := by decide +kernel
theorem dX4_wouldCalm_18 : decode cX4_wouldCalm 18 = .ok (.getfield 9, 3) := by decide +kernel
theorem dX4_wouldCalm_21 : decode cX4_wouldCalm 21 = .ok (.iconst 0, 1) := by decide +kernel
theorem dX4_wouldCalm_22 : decode cX4_wouldCalm 22 = .ok (.aload_n 0, 1) := by decide +kernel
theorem dX4_wouldCalm_23 : decode cX4_wouldCalm 23 = .ok (.getfield 22, 3) := by decide +kernel
theorem dX4_wouldCalm_26 : decode cX4_wouldCalm 26 = .ok (.iconst 0, 1) := by decide +kernel
theorem dX4_wouldCalm_27 : decode cX4_wouldCalm 27 = .ok (.sipush 134, 3) := by decide +kernel
theorem dX4_wouldCalm_30 : decode cX4_wouldCalm 30 = .ok (.invokestatic 42, 3) := by decide +kernel
theorem dX4_wouldCalm_33 : decode cX4_wouldCalm 33 = .ok (.iconst 0, 1) := by decide +kernel
theorem dX4_wouldCalm_34 : decode cX4_wouldCalm 34 = .ok (.istore_n 3, 1) := by decide +kernel
theorem dX4_wouldCalm_35 : decode cX4_wouldCalm 35 = .ok (.aload_n 0, 1) := by decide +kernel
theorem dX4_wouldCalm_36 : decode cX4_wouldCalm 36 = .ok (.getfield 9, 3) := by decide +kernel
theorem dX4_wouldCalm_39 : decode cX4_wouldCalm 39 = .ok (.iconst 1, 1) := by decide +kernel
theorem dX4_wouldCalm_40 : decode cX4_wouldCalm 40 = .ok (.iaload, 1) := by decide +kernel
theorem dX4_wouldCalm_41 : decode cX4_wouldCalm 41 = .ok (.ifCond .ne 7, 3) := by decide +kernel
theorem dX4_wouldCalm_44 : decode cX4_wouldCalm 44 = .ok (.iconst (-1), 1) := by decide +kernel
theorem dX4_wouldCalm_45 : decode cX4_wouldCalm 45 = .ok (.goto 4, 3) := by decide +kernel
theorem dX4_wouldCalm_48 : decode cX4_wouldCalm 48 = .ok (.iconst 1, 1) := by decide +kernel
theorem dX4_wouldCalm_49 : decode cX4_wouldCalm 49 = .ok (.istore 4, 2) := by decide +kernel
theorem dX4_wouldCalm_51 : decode cX4_wouldCalm 51 = .ok (.iconst 1, 1) := by decide +kernel
theorem dX4_wouldCalm_52 : decode cX4_wouldCalm 52 = .ok (.istore 5, 2) := by decide +kernel
theorem dX4_wouldCalm_54 : decode cX4_wouldCalm 54 = .ok (.iload 5, 2) := by decide +kernel
theorem dX4_wouldCalm_56 : decode cX4_wouldCalm 56 = .ok (.iload_n 2, 1) := by decide +kernel
theorem dX4_wouldCalm_57 : decode cX4_wouldCalm 57 = .ok (.if_icmp .gt 33, 3) := by decide +kernel
theorem dX4_wouldCalm_60 : decode cX4_wouldCalm 60 = .ok (.iload 4, 2) := by decide +kernel
theorem dX4_wouldCalm_62 : decode cX4_wouldCalm 62 = .ok (.ifCond .le 28, 3) := by decide +kernel
theorem dX4_wouldCalm_65 : decode cX4_wouldCalm 65 = .ok (.aload_n 0, 1) := by decide +kernel
theorem dX4_wouldCalm_66 : decode cX4_wouldCalm 66 = .ok (.iload_n 1, 1) := by decide +kernel
theorem dX4_wouldCalm_67 : decode cX4_wouldCalm 67 = .ok (.invokevirtual 178, 3) := by decide +kernel
theorem dX4_wouldCalm_70 : decode cX4_wouldCalm 70 = .ok (.istore 4, 2) := by decide +kernel
theorem dX4_wouldCalm_72 : decode cX4_wouldCalm 72 = .ok (.iload 4, 2) := by decide +kernel
theorem dX4_wouldCalm_74 : decode cX4_wouldCalm 74 = .ok (.ifCond .ne 8, 3) := by decide +kernel
theorem dX4_wouldCalm_77 : decode cX4_wouldCalm 77 = .ok (.iload 5, 2) := by decide +kernel
theorem dX4_wouldCalm_79 : decode cX4_wouldCalm 79 = .ok (.goto 4, 3) := by decide +kernel
theorem dX4_wouldCalm_82 : decode cX4_wouldCalm 82 = .ok (.iconst 0, 1) := by decide +kernel
theorem dX4_wouldCalm_83 : decode cX4_wouldCalm 83 = .ok (.istore_n 3, 1) := by decide +kernel
theorem dX4_wouldCalm_84 : decode cX4_wouldCalm 84 = .ok (.iinc 5 1, 3) := by decide +kernel
theorem dX4_wouldCalm_87 : decode cX4_wouldCalm 87 = .ok (.goto (-33), 3) := by decide +kernel
theorem dX4_wouldCalm_90 : decode cX4_wouldCalm 90 = .ok (.aload_n 0, 1) := by decide +kernel
theorem dX4_wouldCalm_91 : decode cX4_wouldCalm 91 = .ok (.getfield 22, 3) := by decide +kernel
theorem dX4_wouldCalm_94 : decode cX4_wouldCalm 94 = .ok (.iconst 0, 1) := by decide +kernel
theorem dX4_wouldCalm_95 : decode cX4_wouldCalm 95 = .ok (.aload_n 0, 1) := by decide +kernel
theorem dX4_wouldCalm_96 : decode cX4_wouldCalm 96 = .ok (.getfield 9, 3) := by decide +kernel
theorem dX4_wouldCalm_99 : decode cX4_wouldCalm 99 = .ok (.iconst 0, 1) := by decide +kernel
theorem dX4_wouldCalm_100 : decode cX4_wouldCalm 100 = .ok (.sipush 134, 3) := by decide +kernel
theorem dX4_wouldCalm_103 : decode cX4_wouldCalm 103 = .ok (.invokestatic 42, 3) := by decide +kernel
theorem dX4_wouldCalm_106 : decode cX4_wouldCalm 106 = .ok (.aload_n 0, 1) := by decide +kernel
theorem dX4_wouldCalm_107 : decode cX4_wouldCalm 107 = .ok (.iload_n 3, 1) := by decide +kernel
theorem dX4_wouldCalm_108 : decode cX4_wouldCalm 108 = .ok (.ifCond .ne 7, 3) := by decide +kernel
theorem dX4_wouldCalm_111 : decode cX4_wouldCalm 111 = .ok (.iconst 3, 1) := by decide +kernel
theorem dX4_wouldCalm_112 : decode cX4_wouldCalm 112 = .ok (.goto 4, 3) := by decide +kernel
theorem dX4_wouldCalm_115 : decode cX4_wouldCalm 115 = .ok (.iconst 0, 1) := by decide +kernel
theorem dX4_wouldCalm_116 : decode cX4_wouldCalm 116 = .ok (.putfield 39, 3) := by decide +kernel
theorem dX4_wouldCalm_119 : decode cX4_wouldCalm 119 = .ok (.iload_n 3, 1) := by decide +kernel
theorem dX4_wouldCalm_120 : decode cX4_wouldCalm 120 = .ok (.ireturn, 1) := by decide +kernel
theorem dX4_wouldPush_0 : decode cX4_wouldPush 0 = .ok (.aload_n 0, 1) := by decide +kernel
theorem dX4_wouldPush_1 : decode cX4_wouldPush 1 = .ok (.aload_n 0, 1) := by decide +kernel
theorem dX4_wouldPush_2 : decode cX4_wouldPush 2 = .ok (.iload_n 1, 1) := by decide +kernel
theorem dX4_wouldPush_3 : decode cX4_wouldPush 3 = .ok (.invokevirtual 86, 3) := by decide +kernel
theorem dX4_wouldPush_6 : decode cX4_wouldPush 6 = .ok (.ifCond .eq 15, 3) := by decide +kernel
theorem dX4_wouldPush_9 : decode cX4_wouldPush 9 = .ok (.aload_n 0, 1) := by decide +kernel
theorem dX4_wouldPush_10 : decode cX4_wouldPush 10 = .ok (.iload_n 2, 1) := by decide +kernel
theorem dX4_wouldPush_11 : decode cX4_wouldPush 11 = .ok (.invokevirtual 104, 3) := by decide +kernel
theorem dX4_wouldPush_14 : decode cX4_wouldPush 14 = .ok (.ifCond .eq 7, 3) := by decide +kernel
theorem dX4_wouldPush_17 : decode cX4_wouldPush 17 = .ok (.iconst 0, 1) := by decide +kernel
theorem dX4_wouldPush_18 : decode cX4_wouldPush 18 = .ok (.goto 4, 3) := by decide +kernel
theorem dX4_wouldPush_21 : decode cX4_wouldPush 21 = .ok (.iconst 1, 1) := by decide +kernel
theorem dX4_wouldPush_22 : decode cX4_wouldPush 22 = .ok (.putfield 39, 3) := by decide +kernel
theorem dX4_wouldPush_25 : decode cX4_wouldPush 25 = .ok (.aload_n 0, 1) := by decide +kernel
theorem dX4_wouldPush_26 : decode cX4_wouldPush 26 = .ok (.getfield 39, 3) := by decide +kernel
theorem dX4_wouldPush_29 : decode cX4_wouldPush 29 = .ok (.ifCond .ne 16, 3) := by decide +kernel
theorem dX4_wouldPush_32 : decode cX4_wouldPush 32 = .ok (.aload_n 0, 1) := by decide +kernel
theorem dX4_wouldPush_33 : decode cX4_wouldPush 33 = .ok (.iload_n 1, 1) := by decide +kernel
theorem dX4_wouldPush_34 : decode cX4_wouldPush 34 = .ok (.iload_n 2, 1) := by decide +kernel
theorem dX4_wouldPush_35 : decode cX4_wouldPush 35 = .ok (.invokevirtual 163, 3) := by decide +kernel
theorem dX4_wouldPush_38 : decode cX4_wouldPush 38 = .ok (.ifCond .eq 7, 3) := by decide +kernel
theorem dX4_wouldPush_41 : decode cX4_wouldPush 41 = .ok (.iconst 1, 1) := by decide +kernel
theorem dX4_wouldPush_42 : decode cX4_wouldPush 42 = .ok (.goto 4, 3) := by decide +kernel
theorem dX4_wouldPush_45 : decode cX4_wouldPush 45 = .ok (.iconst 0, 1) := by decide +kernel
theorem dX4_wouldPush_46 : decode cX4_wouldPush 46 = .ok (.ireturn, 1) := by decide +kernel
theorem dX4_votesFor_0 : decode cX4_votesFor 0 = .ok (.iconst 0, 1) := by decide +kernel
theorem dX4_votesFor_1 : decode cX4_votesFor 1 = .ok (.istore_n 2, 1) := by decide +kernel
theorem dX4_votesFor_2 : decode cX4_votesFor 2 = .ok (.iconst 0, 1) := by decide +kernel
theorem dX4_votesFor_3 : decode cX4_votesFor 3 = .ok (.istore_n 3, 1) := by decide +kernel
theorem dX4_votesFor_4 : decode cX4_votesFor 4 = .ok (.iload_n 3, 1) := by decide +kernel
theorem dX4_votesFor_5 : decode cX4_votesFor 5 = .ok (.aload_n 0, 1) := by decide +kernel
theorem dX4_votesFor_6 : decode cX4_votesFor 6 = .ok (.getfield 9, 3) := by decide +kernel
theorem dX4_votesFor_9 : decode cX4_votesFor 9 = .ok (.iconst 0, 1) := by decide +kernel
theorem dX4_votesFor_10 : decode cX4_votesFor 10 = .ok (.iaload, 1) := by decide +kernel
theorem dX4_votesFor_11 : decode cX4_votesFor 11 = .ok (.if_icmp .ge 26, 3) := by decide +kernel
theorem dX4_votesFor_14 : decode cX4_votesFor 14 = .ok (.iload_n 2, 1) := by decide +kernel
theorem dX4_votesFor_15 : decode cX4_votesFor 15 = .ok (.aload_n 0, 1) := by decide +kernel
theorem dX4_votesFor_16 : decode cX4_votesFor 16 = .ok (.iload_n 3, 1) := by decide +kernel
theorem dX4_votesFor_17 : decode cX4_votesFor 17 = .ok (.iload_n 1, 1) := by decide +kernel
theorem dX4_votesFor_18 : decode cX4_votesFor 18 = .ok (.invokevirtual 125, 3) := by decide +kernel
theorem dX4_votesFor_21 : decode cX4_votesFor 21 = .ok (.ifCond .eq 7, 3) := by decide +kernel
theorem dX4_votesFor_24 : decode cX4_votesFor 24 = .ok (.iconst 1, 1) := by decide +kernel
theorem dX4_votesFor_25 : decode cX4_votesFor 25 = .ok (.goto 4, 3) := by decide +kernel
theorem dX4_votesFor_28 : decode cX4_votesFor 28 = .ok (.iconst 0, 1) := by decide +kernel
theorem dX4_votesFor_29 : decode cX4_votesFor 29 = .ok (.iadd, 1) := by decide +kernel
theorem dX4_votesFor_30 : decode cX4_votesFor 30 = .ok (.istore_n 2, 1) := by decide +kernel
theorem dX4_votesFor_31 : decode cX4_votesFor 31 = .ok (.iinc 3 1, 3) := by decide +kernel
theorem dX4_votesFor_34 : decode cX4_votesFor 34 = .ok (.goto (-30), 3) := by decide +kernel
theorem dX4_votesFor_37 : decode cX4_votesFor 37 = .ok (.iload_n 2, 1) := by decide +kernel
theorem dX4_votesFor_38 : decode cX4_votesFor 38 = .ok (.ireturn, 1) := by decide +kernel
theorem dX4_votes_0 : decode cX4_votes 0 = .ok (.aload_n 0, 1) := by decide +kernel
theorem dX4_votes_1 : decode cX4_votes 1 = .ok (.iload_n 1, 1) := by decide +kernel
theorem dX4_votes_2 : decode cX4_votes 2 = .ok (.invokestatic 94, 3) := by decide +kernel
theorem dX4_votes_5 : decode cX4_votes 5 = .ok (.ifCond .eq 7, 3) := by decide +kernel
theorem dX4_votes_8 : decode cX4_votes 8 = .ok (.iconst 0, 1) := by decide +kernel
theorem dX4_votes_9 : decode cX4_votes 9 = .ok (.goto 4, 3) := by decide +kernel
theorem dX4_votes_12 : decode cX4_votes 12 = .ok (.iconst 1, 1) := by decide +kernel
theorem dX4_votes_13 : decode cX4_votes 13 = .ok (.putfield 39, 3) := by decide +kernel
theorem dX4_votes_16 : decode cX4_votes 16 = .ok (.aload_n 0, 1) := by decide +kernel
theorem dX4_votes_17 : decode cX4_votes 17 = .ok (.getfield 39, 3) := by decide +kernel
theorem dX4_votes_20 : decode cX4_votes 20 = .ok (.ifCond .le 7, 3) := by decide +kernel
theorem dX4_votes_23 : decode cX4_votes 23 = .ok (.iconst 0, 1) := by decide +kernel
theorem dX4_votes_24 : decode cX4_votes 24 = .ok (.goto 8, 3) := by decide +kernel
theorem dX4_votes_27 : decode cX4_votes 27 = .ok (.aload_n 0, 1) := by decide +kernel
theorem dX4_votes_28 : decode cX4_votes 28 = .ok (.iload_n 1, 1) := by decide +kernel
theorem dX4_votes_29 : decode cX4_votes 29 = .ok (.invokevirtual 187, 3) := by decide +kernel
theorem dX4_votes_32 : decode cX4_votes 32 = .ok (.ireturn, 1) := by decide +kernel
theorem dX4_isVoted_0 : decode cX4_isVoted 0 = .ok (.iconst 2, 1) := by decide +kernel
theorem dX4_isVoted_1 : decode cX4_isVoted 1 = .ok (.aload_n 0, 1) := by decide +kernel
theorem dX4_isVoted_2 : decode cX4_isVoted 2 = .ok (.iload_n 1, 1) := by decide +kernel
theorem dX4_isVoted_3 : decode cX4_isVoted 3 = .ok (.invokevirtual 187, 3) := by decide +kernel
theorem dX4_isVoted_6 : decode cX4_isVoted 6 = .ok (.imul, 1) := by decide +kernel
theorem dX4_isVoted_7 : decode cX4_isVoted 7 = .ok (.aload_n 0, 1) := by decide +kernel
theorem dX4_isVoted_8 : decode cX4_isVoted 8 = .ok (.getfield 9, 3) := by decide +kernel
theorem dX4_isVoted_11 : decode cX4_isVoted 11 = .ok (.iconst 0, 1) := by decide +kernel
theorem dX4_isVoted_12 : decode cX4_isVoted 12 = .ok (.iaload, 1) := by decide +kernel
theorem dX4_isVoted_13 : decode cX4_isVoted 13 = .ok (.if_icmp .le 7, 3) := by decide +kernel
theorem dX4_isVoted_16 : decode cX4_isVoted 16 = .ok (.iconst 1, 1) := by decide +kernel
theorem dX4_isVoted_17 : decode cX4_isVoted 17 = .ok (.goto 4, 3) := by decide +kernel
theorem dX4_isVoted_20 : decode cX4_isVoted 20 = .ok (.iconst 0, 1) := by decide +kernel
theorem dX4_isVoted_21 : decode cX4_isVoted 21 = .ok (.ireturn, 1) := by decide +kernel
theorem dX4_isVotedIn_0 : decode cX4_isVotedIn 0 = .ok (.aload_n 0, 1) := by decide +kernel
theorem dX4_isVotedIn_1 : decode cX4_isVotedIn 1 = .ok (.iload_n 1, 1) := by decide +kernel
theorem dX4_isVotedIn_2 : decode cX4_isVotedIn 2 = .ok (.invokestatic 94, 3) := by decide +kernel
theorem dX4_isVotedIn_5 : decode cX4_isVotedIn 5 = .ok (.ifCond .eq 7, 3) := by decide +kernel
theorem dX4_isVotedIn_8 : decode cX4_isVotedIn 8 = .ok (.iconst 0, 1) := by decide +kernel
theorem dX4_isVotedIn_9 : decode cX4_isVotedIn 9 = .ok (.goto 4, 3) := by decide +kernel
theorem dX4_isVotedIn_12 : decode cX4_isVotedIn 12 = .ok (.iconst 1, 1) := by decide +kernel
theorem dX4_isVotedIn_13 : decode cX4_isVotedIn 13 = .ok (.putfield 39, 3) := by decide +kernel
theorem dX4_isVotedIn_16 : decode cX4_isVotedIn 16 = .ok (.aload_n 0, 1) := by decide +kernel
theorem dX4_isVotedIn_17 : decode cX4_isVotedIn 17 = .ok (.getfield 39, 3) := by decide +kernel
theorem dX4_isVotedIn_20 : decode cX4_isVotedIn 20 = .ok (.ifCond .ne 15, 3) := by decide +kernel
theorem dX4_isVotedIn_23 : decode cX4_isVotedIn 23 = .ok (.aload_n 0, 1) := by decide +kernel
theorem dX4_isVotedIn_24 : decode cX4_isVotedIn 24 = .ok (.iload_n 1, 1) := by decide +kernel
theorem dX4_isVotedIn_25 : decode cX4_isVotedIn 25 = .ok (.invokevirtual 190, 3) := by decide +kernel
theorem dX4_isVotedIn_28 : decode cX4_isVotedIn 28 = .ok (.ifCond .eq 7, 3) := by decide +kernel
theorem dX4_isVotedIn_31 : decode cX4_isVotedIn 31 = .ok (.iconst 1, 1) := by decide +kernel
theorem dX4_isVotedIn_32 : decode cX4_isVotedIn 32 = .ok (.goto 4, 3) := by decide +kernel
theorem dX4_isVotedIn_35 : decode cX4_isVotedIn 35 = .ok (.iconst 0, 1) := by decide +kernel
theorem dX4_isVotedIn_36 : decode cX4_isVotedIn 36 = .ok (.ireturn, 1) := by decide +kernel
theorem dX4_agree_0 : decode cX4_agree 0 = .ok (.aload_n 0, 1) := by decide +kernel
theorem dX4_agree_1 : decode cX4_agree 1 = .ok (.aload_n 0, 1) := by decide +kernel
theorem dX4_agree_2 : decode cX4_agree 2 = .ok (.iload_n 1, 1) := by decide +kernel
theorem dX4_agree_3 : decode cX4_agree 3 = .ok (.invokevirtual 86, 3) := by decide +kernel
theorem dX4_agree_6 : decode cX4_agree 6 = .ok (.ifCond .eq 15, 3) := by decide +kernel
theorem dX4_agree_9 : decode cX4_agree 9 = .ok (.aload_n 0, 1) := by decide +kernel
theorem dX4_agree_10 : decode cX4_agree 10 = .ok (.iload_n 2, 1) := by decide +kernel
theorem dX4_agree_11 : decode cX4_agree 11 = .ok (.invokevirtual 86, 3) := by decide +kernel
theorem dX4_agree_14 : decode cX4_agree 14 = .ok (.ifCond .eq 7, 3) := by decide +kernel
theorem dX4_agree_17 : decode cX4_agree 17 = .ok (.iconst 0, 1) := by decide +kernel
theorem dX4_agree_18 : decode cX4_agree 18 = .ok (.goto 4, 3) := by decide +kernel
theorem dX4_agree_21 : decode cX4_agree 21 = .ok (.iconst 1, 1) := by decide +kernel
theorem dX4_agree_22 : decode cX4_agree 22 = .ok (.putfield 39, 3) := by decide +kernel
theorem dX4_agree_25 : decode cX4_agree 25 = .ok (.iconst 0, 1) := by decide +kernel
theorem dX4_agree_26 : decode cX4_agree 26 = .ok (.istore_n 3, 1) := by decide +kernel
theorem dX4_agree_27 : decode cX4_agree 27 = .ok (.iconst 0, 1) := by decide +kernel
theorem dX4_agree_28 : decode cX4_agree 28 = .ok (.istore 4, 2) := by decide +kernel
theorem dX4_agree_30 : decode cX4_agree 30 = .ok (.iload 4, 2) := by decide +kernel
theorem dX4_agree_32 : decode cX4_agree 32 = .ok (.aload_n 0, 1) := by decide +kernel
theorem dX4_agree_33 : decode cX4_agree 33 = .ok (.getfield 9, 3) := by decide +kernel
theorem dX4_agree_36 : decode cX4_agree 36 = .ok (.iconst 1, 1) := by decide +kernel
theorem dX4_agree_37 : decode cX4_agree 37 = .ok (.iaload, 1) := by decide +kernel
theorem dX4_agree_38 : decode cX4_agree 38 = .ok (.if_icmp .ge 49, 3) := by decide +kernel
theorem dX4_agree_41 : decode cX4_agree 41 = .ok (.aload_n 0, 1) := by decide +kernel
theorem dX4_agree_42 : decode cX4_agree 42 = .ok (.getfield 39, 3) := by decide +kernel
theorem dX4_agree_45 : decode cX4_agree 45 = .ok (.ifCond .ne 42, 3) := by decide +kernel
theorem dX4_agree_48 : decode cX4_agree 48 = .ok (.iload_n 3, 1) := by decide +kernel
theorem dX4_agree_49 : decode cX4_agree 49 = .ok (.aload_n 0, 1) := by decide +kernel
theorem dX4_agree_50 : decode cX4_agree 50 = .ok (.iload_n 1, 1) := by decide +kernel
theorem dX4_agree_51 : decode cX4_agree 51 = .ok (.aload_n 0, 1) := by decide +kernel
theorem dX4_agree_52 : decode cX4_agree 52 = .ok (.iload 4, 2) := by decide +kernel
theorem dX4_agree_54 : decode cX4_agree 54 = .ok (.invokevirtual 97, 3) := by decide +kernel
theorem dX4_agree_57 : decode cX4_agree 57 = .ok (.invokevirtual 125, 3) := by decide +kernel
theorem dX4_agree_60 : decode cX4_agree 60 = .ok (.aload_n 0, 1) := by decide +kernel
theorem dX4_agree_61 : decode cX4_agree 61 = .ok (.iload_n 2, 1) := by decide +kernel
theorem dX4_agree_62 : decode cX4_agree 62 = .ok (.aload_n 0, 1) := by decide +kernel
theorem dX4_agree_63 : decode cX4_agree 63 = .ok (.iload 4, 2) := by decide +kernel
theorem dX4_agree_65 : decode cX4_agree 65 = .ok (.invokevirtual 97, 3) := by decide +kernel
theorem dX4_agree_68 : decode cX4_agree 68 = .ok (.invokevirtual 125, 3) := by decide +kernel
theorem dX4_agree_71 : decode cX4_agree 71 = .ok (.if_icmp .ne 7, 3) := by decide +kernel
theorem dX4_agree_74 : decode cX4_agree 74 = .ok (.iconst 1, 1) := by decide +kernel
theorem dX4_agree_75 : decode cX4_agree 75 = .ok (.goto 4, 3) := by decide +kernel
theorem dX4_agree_78 : decode cX4_agree 78 = .ok (.iconst 0, 1) := by decide +kernel
theorem dX4_agree_79 : decode cX4_agree 79 = .ok (.iadd, 1) := by decide +kernel
theorem dX4_agree_80 : decode cX4_agree 80 = .ok (.istore_n 3, 1) := by decide +kernel
theorem dX4_agree_81 : decode cX4_agree 81 = .ok (.iinc 4 1, 3) := by decide +kernel
theorem dX4_agree_84 : decode cX4_agree 84 = .ok (.goto (-54), 3) := by decide +kernel
theorem dX4_agree_87 : decode cX4_agree 87 = .ok (.iload_n 3, 1) := by decide +kernel
theorem dX4_agree_88 : decode cX4_agree 88 = .ok (.ireturn, 1) := by decide +kernel
theorem dX4_mistaken_0 : decode cX4_mistaken 0 = .ok (.aload_n 0, 1) := by decide +kernel
theorem dX4_mistaken_1 : decode cX4_mistaken 1 = .ok (.iconst 0, 1) := by decide +kernel
theorem dX4_mistaken_2 : decode cX4_mistaken 2 = .ok (.putfield 39, 3) := by decide +kernel
theorem dX4_mistaken_5 : decode cX4_mistaken 5 = .ok (.iconst 0, 1) := by decide +kernel
theorem dX4_mistaken_6 : decode cX4_mistaken 6 = .ok (.istore_n 1, 1) := by decide +kernel
theorem dX4_mistaken_7 : decode cX4_mistaken 7 = .ok (.iconst 0, 1) := by decide +kernel
theorem dX4_mistaken_8 : decode cX4_mistaken 8 = .ok (.istore_n 2, 1) := by decide +kernel
theorem dX4_mistaken_9 : decode cX4_mistaken 9 = .ok (.iload_n 2, 1) := by decide +kernel
theorem dX4_mistaken_10 : decode cX4_mistaken 10 = .ok (.aload_n 0, 1) := by decide +kernel
theorem dX4_mistaken_11 : decode cX4_mistaken 11 = .ok (.getfield 9, 3) := by decide +kernel
theorem dX4_mistaken_14 : decode cX4_mistaken 14 = .ok (.iconst 1, 1) := by decide +kernel
theorem dX4_mistaken_15 : decode cX4_mistaken 15 = .ok (.iaload, 1) := by decide +kernel
theorem dX4_mistaken_16 : decode cX4_mistaken 16 = .ok (.if_icmp .ge 34, 3) := by decide +kernel
theorem dX4_mistaken_19 : decode cX4_mistaken 19 = .ok (.iload_n 1, 1) := by decide +kernel
theorem dX4_mistaken_20 : decode cX4_mistaken 20 = .ok (.aload_n 0, 1) := by decide +kernel
theorem dX4_mistaken_21 : decode cX4_mistaken 21 = .ok (.aload_n 0, 1) := by decide +kernel
theorem dX4_mistaken_22 : decode cX4_mistaken 22 = .ok (.iload_n 2, 1) := by decide +kernel
theorem dX4_mistaken_23 : decode cX4_mistaken 23 = .ok (.invokevirtual 97, 3) := by decide +kernel
theorem dX4_mistaken_26 : decode cX4_mistaken 26 = .ok (.invokevirtual 190, 3) := by decide +kernel
theorem dX4_mistaken_29 : decode cX4_mistaken 29 = .ok (.aload_n 0, 1) := by decide +kernel
theorem dX4_mistaken_30 : decode cX4_mistaken 30 = .ok (.iload_n 2, 1) := by decide +kernel
theorem dX4_mistaken_31 : decode cX4_mistaken 31 = .ok (.invokevirtual 128, 3) := by decide +kernel
theorem dX4_mistaken_34 : decode cX4_mistaken 34 = .ok (.if_icmp .ne 7, 3) := by decide +kernel
theorem dX4_mistaken_37 : decode cX4_mistaken 37 = .ok (.iconst 0, 1) := by decide +kernel
theorem dX4_mistaken_38 : decode cX4_mistaken 38 = .ok (.goto 4, 3) := by decide +kernel
theorem dX4_mistaken_41 : decode cX4_mistaken 41 = .ok (.iconst 1, 1) := by decide +kernel
theorem dX4_mistaken_42 : decode cX4_mistaken 42 = .ok (.iadd, 1) := by decide +kernel
theorem dX4_mistaken_43 : decode cX4_mistaken 43 = .ok (.istore_n 1, 1) := by decide +kernel
theorem dX4_mistaken_44 : decode cX4_mistaken 44 = .ok (.iinc 2 1, 3) := by decide +kernel
theorem dX4_mistaken_47 : decode cX4_mistaken 47 = .ok (.goto (-38), 3) := by decide +kernel
theorem dX4_mistaken_50 : decode cX4_mistaken 50 = .ok (.iload_n 1, 1) := by decide +kernel
theorem dX4_mistaken_51 : decode cX4_mistaken 51 = .ok (.ireturn, 1) := by decide +kernel
theorem dX4_isAhead_0 : decode cX4_isAhead 0 = .ok (.aload_n 0, 1) := by decide +kernel
theorem dX4_isAhead_1 : decode cX4_isAhead 1 = .ok (.iload_n 2, 1) := by decide +kernel
theorem dX4_isAhead_2 : decode cX4_isAhead 2 = .ok (.invokevirtual 143, 3) := by decide +kernel
theorem dX4_isAhead_5 : decode cX4_isAhead 5 = .ok (.aload_n 0, 1) := by decide +kernel
theorem dX4_isAhead_6 : decode cX4_isAhead 6 = .ok (.iload_n 1, 1) := by decide +kernel
theorem dX4_isAhead_7 : decode cX4_isAhead 7 = .ok (.invokevirtual 143, 3) := by decide +kernel
theorem dX4_isAhead_10 : decode cX4_isAhead 10 = .ok (.isub, 1) := by decide +kernel
theorem dX4_isAhead_11 : decode cX4_isAhead 11 = .ok (.istore_n 3, 1) := by decide +kernel
theorem dX4_isAhead_12 : decode cX4_isAhead 12 = .ok (.iload_n 3, 1) := by decide +kernel
theorem dX4_isAhead_13 : decode cX4_isAhead 13 = .ok (.ifCond .eq 7, 3) := by decide +kernel
theorem dX4_isAhead_16 : decode cX4_isAhead 16 = .ok (.iload_n 3, 1) := by decide +kernel
theorem dX4_isAhead_17 : decode cX4_isAhead 17 = .ok (.goto 24, 3) := by decide +kernel
theorem dX4_isAhead_20 : decode cX4_isAhead 20 = .ok (.aload_n 0, 1) := by decide +kernel
theorem dX4_isAhead_21 : decode cX4_isAhead 21 = .ok (.getfield 9, 3) := by decide +kernel
theorem dX4_isAhead_24 : decode cX4_isAhead 24 = .ok (.iload_n 2, 1) := by decide +kernel
theorem dX4_isAhead_25 : decode cX4_isAhead 25 = .ok (.iconst 3, 1) := by decide +kernel
theorem dX4_isAhead_26 : decode cX4_isAhead 26 = .ok (.invokestatic 73, 3) := by decide +kernel
theorem dX4_isAhead_29 : decode cX4_isAhead 29 = .ok (.iaload, 1) := by decide +kernel
theorem dX4_isAhead_30 : decode cX4_isAhead 30 = .ok (.aload_n 0, 1) := by decide +kernel
theorem dX4_isAhead_31 : decode cX4_isAhead 31 = .ok (.getfield 9, 3) := by decide +kernel
theorem dX4_isAhead_34 : decode cX4_isAhead 34 = .ok (.iload_n 1, 1) := by decide +kernel
theorem dX4_isAhead_35 : decode cX4_isAhead 35 = .ok (.iconst 3, 1) := by decide +kernel
theorem dX4_isAhead_36 : decode cX4_isAhead 36 = .ok (.invokestatic 73, 3) := by decide +kernel
theorem dX4_isAhead_39 : decode cX4_isAhead 39 = .ok (.iaload, 1) := by decide +kernel
theorem dX4_isAhead_40 : decode cX4_isAhead 40 = .ok (.isub, 1) := by decide +kernel
theorem dX4_isAhead_41 : decode cX4_isAhead 41 = .ok (.istore_n 3, 1) := by decide +kernel
theorem dX4_isAhead_42 : decode cX4_isAhead 42 = .ok (.iload_n 3, 1) := by decide +kernel
theorem dX4_isAhead_43 : decode cX4_isAhead 43 = .ok (.ifCond .gt 12, 3) := by decide +kernel
theorem dX4_isAhead_46 : decode cX4_isAhead 46 = .ok (.iload_n 3, 1) := by decide +kernel
theorem dX4_isAhead_47 : decode cX4_isAhead 47 = .ok (.ifCond .ne 12, 3) := by decide +kernel
theorem dX4_isAhead_50 : decode cX4_isAhead 50 = .ok (.iload_n 1, 1) := by decide +kernel
theorem dX4_isAhead_51 : decode cX4_isAhead 51 = .ok (.iload_n 2, 1) := by decide +kernel
theorem dX4_isAhead_52 : decode cX4_isAhead 52 = .ok (.if_icmp .ge 7, 3) := by decide +kernel
theorem dX4_isAhead_55 : decode cX4_isAhead 55 = .ok (.iconst 1, 1) := by decide +kernel
theorem dX4_isAhead_56 : decode cX4_isAhead 56 = .ok (.goto 4, 3) := by decide +kernel
theorem dX4_isAhead_59 : decode cX4_isAhead 59 = .ok (.iconst 0, 1) := by decide +kernel
theorem dX4_isAhead_60 : decode cX4_isAhead 60 = .ok (.ireturn, 1) := by decide +kernel
theorem dX4_ranked_0 : decode cX4_ranked 0 = .ok (.aload_n 0, 1) := by decide +kernel
theorem dX4_ranked_1 : decode cX4_ranked 1 = .ok (.aload_n 0, 1) := by decide +kernel
theorem dX4_ranked_2 : decode cX4_ranked 2 = .ok (.iload_n 1, 1) := by decide +kernel
theorem dX4_ranked_3 : decode cX4_ranked 3 = .ok (.invokevirtual 86, 3) := by decide +kernel
theorem dX4_ranked_6 : decode cX4_ranked 6 = .ok (.ifCond .eq 7, 3) := by decide +kernel
theorem dX4_ranked_9 : decode cX4_ranked 9 = .ok (.iconst 0, 1) := by decide +kernel
theorem dX4_ranked_10 : decode cX4_ranked 10 = .ok (.goto 4, 3) := by decide +kernel
theorem dX4_ranked_13 : decode cX4_ranked 13 = .ok (.iconst 1, 1) := by decide +kernel
theorem dX4_ranked_14 : decode cX4_ranked 14 = .ok (.putfield 39, 3) := by decide +kernel
theorem dX4_ranked_17 : decode cX4_ranked 17 = .ok (.iconst 0, 1) := by decide +kernel
theorem dX4_ranked_18 : decode cX4_ranked 18 = .ok (.istore_n 2, 1) := by decide +kernel
theorem dX4_ranked_19 : decode cX4_ranked 19 = .ok (.iconst 0, 1) := by decide +kernel
theorem dX4_ranked_20 : decode cX4_ranked 20 = .ok (.istore_n 3, 1) := by decide +kernel
theorem dX4_ranked_21 : decode cX4_ranked 21 = .ok (.iload_n 3, 1) := by decide +kernel
theorem dX4_ranked_22 : decode cX4_ranked 22 = .ok (.aload_n 0, 1) := by decide +kernel
theorem dX4_ranked_23 : decode cX4_ranked 23 = .ok (.getfield 9, 3) := by decide +kernel
theorem dX4_ranked_26 : decode cX4_ranked 26 = .ok (.iconst 0, 1) := by decide +kernel
theorem dX4_ranked_27 : decode cX4_ranked 27 = .ok (.iaload, 1) := by decide +kernel
theorem dX4_ranked_28 : decode cX4_ranked 28 = .ok (.if_icmp .ge 71, 3) := by decide +kernel
theorem dX4_ranked_31 : decode cX4_ranked 31 = .ok (.aload_n 0, 1) := by decide +kernel
theorem dX4_ranked_32 : decode cX4_ranked 32 = .ok (.getfield 39, 3) := by decide +kernel
theorem dX4_ranked_35 : decode cX4_ranked 35 = .ok (.ifCond .ne 64, 3) := by decide +kernel
theorem dX4_ranked_38 : decode cX4_ranked 38 = .ok (.iconst 0, 1) := by decide +kernel
theorem dX4_ranked_39 : decode cX4_ranked 39 = .ok (.istore 4, 2) := by decide +kernel
theorem dX4_ranked_41 : decode cX4_ranked 41 = .ok (.iconst 0, 1) := by decide +kernel
theorem dX4_ranked_42 : decode cX4_ranked 42 = .ok (.istore 5, 2) := by decide +kernel
theorem dX4_ranked_44 : decode cX4_ranked 44 = .ok (.iload 5, 2) := by decide +kernel
theorem dX4_ranked_46 : decode cX4_ranked 46 = .ok (.aload_n 0, 1) := by decide +kernel
theorem dX4_ranked_47 : decode cX4_ranked 47 = .ok (.getfield 9, 3) := by decide +kernel
theorem dX4_ranked_50 : decode cX4_ranked 50 = .ok (.iconst 0, 1) := by decide +kernel
theorem dX4_ranked_51 : decode cX4_ranked 51 = .ok (.iaload, 1) := by decide +kernel
theorem dX4_ranked_52 : decode cX4_ranked 52 = .ok (.if_icmp .ge 29, 3) := by decide +kernel
theorem dX4_ranked_55 : decode cX4_ranked 55 = .ok (.iload 4, 2) := by decide +kernel
theorem dX4_ranked_57 : decode cX4_ranked 57 = .ok (.aload_n 0, 1) := by decide +kernel
theorem dX4_ranked_58 : decode cX4_ranked 58 = .ok (.iload 5, 2) := by decide +kernel
theorem dX4_ranked_60 : decode cX4_ranked 60 = .ok (.iload_n 3, 1) := by decide +kernel
theorem dX4_ranked_61 : decode cX4_ranked 61 = .ok (.invokevirtual 193, 3) := by decide +kernel
theorem dX4_ranked_64 : decode cX4_ranked 64 = .ok (.ifCond .eq 7, 3) := by decide +kernel
theorem dX4_ranked_67 : decode cX4_ranked 67 = .ok (.iconst 1, 1) := by decide +kernel
theorem dX4_ranked_68 : decode cX4_ranked 68 = .ok (.goto 4, 3) := by decide +kernel
theorem dX4_ranked_71 : decode cX4_ranked 71 = .ok (.iconst 0, 1) := by decide +kernel
theorem dX4_ranked_72 : decode cX4_ranked 72 = .ok (.iadd, 1) := by decide +kernel
theorem dX4_ranked_73 : decode cX4_ranked 73 = .ok (.istore 4, 2) := by decide +kernel
theorem dX4_ranked_75 : decode cX4_ranked 75 = .ok (.iinc 5 1, 3) := by decide +kernel
theorem dX4_ranked_78 : decode cX4_ranked 78 = .ok (.goto (-34), 3) := by decide +kernel
theorem dX4_ranked_81 : decode cX4_ranked 81 = .ok (.iload 4, 2) := by decide +kernel
theorem dX4_ranked_83 : decode cX4_ranked 83 = .ok (.iload_n 1, 1) := by decide +kernel
theorem dX4_ranked_84 : decode cX4_ranked 84 = .ok (.if_icmp .ne 7, 3) := by decide +kernel
theorem dX4_ranked_87 : decode cX4_ranked 87 = .ok (.iload_n 3, 1) := by decide +kernel
theorem dX4_ranked_88 : decode cX4_ranked 88 = .ok (.goto 4, 3) := by decide +kernel
theorem dX4_ranked_91 : decode cX4_ranked 91 = .ok (.iload_n 2, 1) := by decide +kernel
theorem dX4_ranked_92 : decode cX4_ranked 92 = .ok (.istore_n 2, 1) := by decide +kernel
theorem dX4_ranked_93 : decode cX4_ranked 93 = .ok (.iinc 3 1, 3) := by decide +kernel
theorem dX4_ranked_96 : decode cX4_ranked 96 = .ok (.goto (-75), 3) := by decide +kernel
theorem dX4_ranked_99 : decode cX4_ranked 99 = .ok (.iload_n 2, 1) := by decide +kernel
theorem dX4_ranked_100 : decode cX4_ranked 100 = .ok (.ireturn, 1) := by decide +kernel
theorem dX4_says_0 : decode cX4_says 0 = .ok (.aload_n 0, 1) := by decide +kernel
theorem dX4_says_1 : decode cX4_says 1 = .ok (.getfield 25, 3) := by decide +kernel
theorem dX4_says_4 : decode cX4_says 4 = .ok (.aload_n 0, 1) := by decide +kernel
theorem dX4_says_5 : decode cX4_says 5 = .ok (.getfield 196, 3) := by decide +kernel
theorem dX4_says_8 : decode cX4_says 8 = .ok (.iload_n 1, 1) := by decide +kernel
theorem dX4_says_9 : decode cX4_says 9 = .ok (.castore, 1) := by decide +kernel
theorem dX4_says_10 : decode cX4_says 10 = .ok (.aload_n 0, 1) := by decide +kernel
theorem dX4_says_11 : decode cX4_says 11 = .ok (.dup, 1) := by decide +kernel
theorem dX4_says_12 : decode cX4_says 12 = .ok (.getfield 196, 3) := by decide +kernel
theorem dX4_says_15 : decode cX4_says 15 = .ok (.iconst 1, 1) := by decide +kernel
theorem dX4_says_16 : decode cX4_says 16 = .ok (.iadd, 1) := by decide +kernel
theorem dX4_says_17 : decode cX4_says 17 = .ok (.putfield 196, 3) := by decide +kernel
theorem dX4_says_20 : decode cX4_says 20 = .ok (.return_, 1) := by decide +kernel
theorem dX4_saysNumber_0 : decode cX4_saysNumber 0 = .ok (.iload_n 1, 1) := by decide +kernel
theorem dX4_saysNumber_1 : decode cX4_saysNumber 1 = .ok (.ifCond .ge 16, 3) := by decide +kernel
theorem dX4_saysNumber_4 : decode cX4_saysNumber 4 = .ok (.aload_n 0, 1) := by decide +kernel
theorem dX4_saysNumber_5 : decode cX4_saysNumber 5 = .ok (.bipush 45, 2) := by decide +kernel
theorem dX4_saysNumber_7 : decode cX4_saysNumber 7 = .ok (.invokevirtual 199, 3) := by decide +kernel
theorem dX4_saysNumber_10 : decode cX4_saysNumber 10 = .ok (.aload_n 0, 1) := by decide +kernel
theorem dX4_saysNumber_11 : decode cX4_saysNumber 11 = .ok (.iload_n 1, 1) := by decide +kernel
theorem dX4_saysNumber_12 : decode cX4_saysNumber 12 = .ok (.ineg, 1) := by decide +kernel
theorem dX4_saysNumber_13 : decode cX4_saysNumber 13 = .ok (.invokevirtual 203, 3) := by decide +kernel
theorem dX4_saysNumber_16 : decode cX4_saysNumber 16 = .ok (.return_, 1) := by decide +kernel
theorem dX4_saysNumber_17 : decode cX4_saysNumber 17 = .ok (.iload_n 1, 1) := by decide +kernel
theorem dX4_saysNumber_18 : decode cX4_saysNumber 18 = .ok (.bipush 9, 2) := by decide +kernel
theorem dX4_saysNumber_20 : decode cX4_saysNumber 20 = .ok (.if_icmp .le 11, 3) := by decide +kernel
theorem dX4_saysNumber_23 : decode cX4_saysNumber 23 = .ok (.aload_n 0, 1) := by decide +kernel
theorem dX4_saysNumber_24 : decode cX4_saysNumber 24 = .ok (.iload_n 1, 1) := by decide +kernel
theorem dX4_saysNumber_25 : decode cX4_saysNumber 25 = .ok (.bipush 10, 2) := by decide +kernel
theorem dX4_saysNumber_27 : decode cX4_saysNumber 27 = .ok (.idiv, 1) := by decide +kernel
theorem dX4_saysNumber_28 : decode cX4_saysNumber 28 = .ok (.invokevirtual 203, 3) := by decide +kernel
theorem dX4_saysNumber_31 : decode cX4_saysNumber 31 = .ok (.aload_n 0, 1) := by decide +kernel
theorem dX4_saysNumber_32 : decode cX4_saysNumber 32 = .ok (.bipush 48, 2) := by decide +kernel
theorem dX4_saysNumber_34 : decode cX4_saysNumber 34 = .ok (.iload_n 1, 1) := by decide +kernel
theorem dX4_saysNumber_35 : decode cX4_saysNumber 35 = .ok (.bipush 10, 2) := by decide +kernel
theorem dX4_saysNumber_37 : decode cX4_saysNumber 37 = .ok (.irem, 1) := by decide +kernel
theorem dX4_saysNumber_38 : decode cX4_saysNumber 38 = .ok (.iadd, 1) := by decide +kernel
theorem dX4_saysNumber_39 : decode cX4_saysNumber 39 = .ok (.i2c, 1) := by decide +kernel
theorem dX4_saysNumber_40 : decode cX4_saysNumber 40 = .ok (.invokevirtual 199, 3) := by decide +kernel
theorem dX4_saysNumber_43 : decode cX4_saysNumber 43 = .ok (.return_, 1) := by decide +kernel
theorem dX4_line_0 : decode cX4_line 0 = .ok (.aload_n 0, 1) := by decide +kernel
theorem dX4_line_1 : decode cX4_line 1 = .ok (.aload_n 0, 1) := by decide +kernel
theorem dX4_line_2 : decode cX4_line 2 = .ok (.iload_n 1, 1) := by decide +kernel
theorem dX4_line_3 : decode cX4_line 3 = .ok (.invokevirtual 104, 3) := by decide +kernel
theorem dX4_line_6 : decode cX4_line 6 = .ok (.ifCond .eq 7, 3) := by decide +kernel
theorem dX4_line_9 : decode cX4_line 9 = .ok (.iconst 0, 1) := by decide +kernel
theorem dX4_line_10 : decode cX4_line 10 = .ok (.goto 4, 3) := by decide +kernel
theorem dX4_line_13 : decode cX4_line 13 = .ok (.iconst 1, 1) := by decide +kernel
theorem dX4_line_14 : decode cX4_line 14 = .ok (.putfield 39, 3) := by decide +kernel
theorem dX4_line_17 : decode cX4_line 17 = .ok (.aload_n 0, 1) := by decide +kernel
theorem dX4_line_18 : decode cX4_line 18 = .ok (.getfield 39, 3) := by decide +kernel
theorem dX4_line_21 : decode cX4_line 21 = .ok (.ifCond .le 5, 3) := by decide +kernel
theorem dX4_line_24 : decode cX4_line 24 = .ok (.iconst 0, 1) := by decide +kernel
theorem dX4_line_25 : decode cX4_line 25 = .ok (.ireturn, 1) := by decide +kernel
theorem dX4_line_26 : decode cX4_line 26 = .ok (.aload_n 0, 1) := by decide +kernel
theorem dX4_line_27 : decode cX4_line 27 = .ok (.iconst 0, 1) := by decide +kernel
theorem dX4_line_28 : decode cX4_line 28 = .ok (.putfield 196, 3) := by decide +kernel
theorem dX4_line_31 : decode cX4_line 31 = .ok (.aload_n 0, 1) := by decide +kernel
theorem dX4_line_32 : decode cX4_line 32 = .ok (.aload_n 0, 1) := by decide +kernel
theorem dX4_line_33 : decode cX4_line 33 = .ok (.iload_n 1, 1) := by decide +kernel
theorem dX4_line_34 : decode cX4_line 34 = .ok (.invokevirtual 128, 3) := by decide +kernel
theorem dX4_line_37 : decode cX4_line 37 = .ok (.ifCond .eq 8, 3) := by decide +kernel
theorem dX4_line_40 : decode cX4_line 40 = .ok (.bipush 43, 2) := by decide +kernel
theorem dX4_line_42 : decode cX4_line 42 = .ok (.goto 5, 3) := by decide +kernel
theorem dX4_line_45 : decode cX4_line 45 = .ok (.bipush 45, 2) := by decide +kernel
theorem dX4_line_47 : decode cX4_line 47 = .ok (.invokevirtual 199, 3) := by decide +kernel
theorem dX4_line_50 : decode cX4_line 50 = .ok (.iconst 0, 1) := by decide +kernel
theorem dX4_line_51 : decode cX4_line 51 = .ok (.istore_n 2, 1) := by decide +kernel
theorem dX4_line_52 : decode cX4_line 52 = .ok (.iload_n 2, 1) := by decide +kernel
theorem dX4_line_53 : decode cX4_line 53 = .ok (.bipush 10, 2) := by decide +kernel
theorem dX4_line_55 : decode cX4_line 55 = .ok (.if_icmp .ge 30, 3) := by decide +kernel
theorem dX4_line_58 : decode cX4_line 58 = .ok (.aload_n 0, 1) := by decide +kernel
theorem dX4_line_59 : decode cX4_line 59 = .ok (.iload_n 1, 1) := by decide +kernel
theorem dX4_line_60 : decode cX4_line 60 = .ok (.invokevirtual 97, 3) := by decide +kernel
theorem dX4_line_63 : decode cX4_line 63 = .ok (.iload_n 2, 1) := by decide +kernel
theorem dX4_line_64 : decode cX4_line 64 = .ok (.invokestatic 118, 3) := by decide +kernel
theorem dX4_line_67 : decode cX4_line 67 = .ok (.ifCond .eq 12, 3) := by decide +kernel
theorem dX4_line_70 : decode cX4_line 70 = .ok (.aload_n 0, 1) := by decide +kernel
theorem dX4_line_71 : decode cX4_line 71 = .ok (.bipush 97, 2) := by decide +kernel
theorem dX4_line_73 : decode cX4_line 73 = .ok (.iload_n 2, 1) := by decide +kernel
theorem dX4_line_74 : decode cX4_line 74 = .ok (.iadd, 1) := by decide +kernel
theorem dX4_line_75 : decode cX4_line 75 = .ok (.i2c, 1) := by decide +kernel
theorem dX4_line_76 : decode cX4_line 76 = .ok (.invokevirtual 199, 3) := by decide +kernel
theorem dX4_line_79 : decode cX4_line 79 = .ok (.iinc 2 1, 3) := by decide +kernel
theorem dX4_line_82 : decode cX4_line 82 = .ok (.goto (-30), 3) := by decide +kernel
theorem dX4_line_85 : decode cX4_line 85 = .ok (.aload_n 0, 1) := by decide +kernel
theorem dX4_line_86 : decode cX4_line 86 = .ok (.getfield 196, 3) := by decide +kernel
theorem dX4_line_89 : decode cX4_line 89 = .ok (.ireturn, 1) := by decide +kernel
theorem dX4_guardLine_0 : decode cX4_guardLine 0 = .ok (.aload_n 0, 1) := by decide +kernel
theorem dX4_guardLine_1 : decode cX4_guardLine 1 = .ok (.aload_n 0, 1) := by decide +kernel
theorem dX4_guardLine_2 : decode cX4_guardLine 2 = .ok (.iload_n 1, 1) := by decide +kernel
theorem dX4_guardLine_3 : decode cX4_guardLine 3 = .ok (.invokevirtual 86, 3) := by decide +kernel
theorem dX4_guardLine_6 : decode cX4_guardLine 6 = .ok (.ifCond .eq 7, 3) := by decide +kernel
theorem dX4_guardLine_9 : decode cX4_guardLine 9 = .ok (.iconst 0, 1) := by decide +kernel
theorem dX4_guardLine_10 : decode cX4_guardLine 10 = .ok (.goto 4, 3) := by decide +kernel
theorem dX4_guardLine_13 : decode cX4_guardLine 13 = .ok (.iconst 1, 1) := by decide +kernel
theorem dX4_guardLine_14 : decode cX4_guardLine 14 = .ok (.putfield 39, 3) := by decide +kernel
theorem dX4_guardLine_17 : decode cX4_guardLine 17 = .ok (.aload_n 0, 1) := by decide +kernel
theorem dX4_guardLine_18 : decode cX4_guardLine 18 = .ok (.getfield 39, 3) := by decide +kernel
theorem dX4_guardLine_21 : decode cX4_guardLine 21 = .ok (.ifCond .le 5, 3) := by decide +kernel
theorem dX4_guardLine_24 : decode cX4_guardLine 24 = .ok (.iconst 0, 1) := by decide +kernel
theorem dX4_guardLine_25 : decode cX4_guardLine 25 = .ok (.ireturn, 1) := by decide +kernel
theorem dX4_guardLine_26 : decode cX4_guardLine 26 = .ok (.aload_n 0, 1) := by decide +kernel
theorem dX4_guardLine_27 : decode cX4_guardLine 27 = .ok (.iconst 0, 1) := by decide +kernel
theorem dX4_guardLine_28 : decode cX4_guardLine 28 = .ok (.putfield 196, 3) := by decide +kernel
theorem dX4_guardLine_31 : decode cX4_guardLine 31 = .ok (.iconst (-1), 1) := by decide +kernel
theorem dX4_guardLine_32 : decode cX4_guardLine 32 = .ok (.istore_n 2, 1) := by decide +kernel
theorem dX4_guardLine_33 : decode cX4_guardLine 33 = .ok (.iload_n 2, 1) := by decide +kernel
theorem dX4_guardLine_34 : decode cX4_guardLine 34 = .ok (.bipush 10, 2) := by decide +kernel
theorem dX4_guardLine_36 : decode cX4_guardLine 36 = .ok (.if_icmp .ge 29, 3) := by decide +kernel
theorem dX4_guardLine_39 : decode cX4_guardLine 39 = .ok (.iload_n 2, 1) := by decide +kernel
theorem dX4_guardLine_40 : decode cX4_guardLine 40 = .ok (.ifCond .lt 9, 3) := by decide +kernel
theorem dX4_guardLine_43 : decode cX4_guardLine 43 = .ok (.aload_n 0, 1) := by decide +kernel
theorem dX4_guardLine_44 : decode cX4_guardLine 44 = .ok (.bipush 32, 2) := by decide +kernel
theorem dX4_guardLine_46 : decode cX4_guardLine 46 = .ok (.invokevirtual 199, 3) := by decide +kernel
theorem dX4_guardLine_49 : decode cX4_guardLine 49 = .ok (.aload_n 0, 1) := by decide +kernel
theorem dX4_guardLine_50 : decode cX4_guardLine 50 = .ok (.aload_n 0, 1) := by decide +kernel
theorem dX4_guardLine_51 : decode cX4_guardLine 51 = .ok (.iload_n 1, 1) := by decide +kernel
theorem dX4_guardLine_52 : decode cX4_guardLine 52 = .ok (.iload_n 2, 1) := by decide +kernel
theorem dX4_guardLine_53 : decode cX4_guardLine 53 = .ok (.invokevirtual 110, 3) := by decide +kernel
theorem dX4_guardLine_56 : decode cX4_guardLine 56 = .ok (.invokevirtual 203, 3) := by decide +kernel
theorem dX4_guardLine_59 : decode cX4_guardLine 59 = .ok (.iinc 2 1, 3) := by decide +kernel
theorem dX4_guardLine_62 : decode cX4_guardLine 62 = .ok (.goto (-29), 3) := by decide +kernel
theorem dX4_guardLine_65 : decode cX4_guardLine 65 = .ok (.aload_n 0, 1) := by decide +kernel
theorem dX4_guardLine_66 : decode cX4_guardLine 66 = .ok (.getfield 196, 3) := by decide +kernel
theorem dX4_guardLine_69 : decode cX4_guardLine 69 = .ok (.ireturn, 1) := by decide +kernel
theorem dX4_character_0 : decode cX4_character 0 = .ok (.aload_n 0, 1) := by decide +kernel
theorem dX4_character_1 : decode cX4_character 1 = .ok (.iload_n 1, 1) := by decide +kernel
theorem dX4_character_2 : decode cX4_character 2 = .ok (.iconst 0, 1) := by decide +kernel
theorem dX4_character_3 : decode cX4_character 3 = .ok (.aload_n 0, 1) := by decide +kernel
theorem dX4_character_4 : decode cX4_character 4 = .ok (.getfield 196, 3) := by decide +kernel
theorem dX4_character_7 : decode cX4_character 7 = .ok (.iconst 1, 1) := by decide +kernel
theorem dX4_character_8 : decode cX4_character 8 = .ok (.isub, 1) := by decide +kernel
theorem dX4_character_9 : decode cX4_character 9 = .ok (.invokestatic 61, 3) := by decide +kernel
theorem dX4_character_12 : decode cX4_character 12 = .ok (.ifCond .eq 7, 3) := by decide +kernel
theorem dX4_character_15 : decode cX4_character 15 = .ok (.iconst 0, 1) := by decide +kernel
theorem dX4_character_16 : decode cX4_character 16 = .ok (.goto 4, 3) := by decide +kernel
theorem dX4_character_19 : decode cX4_character 19 = .ok (.iconst 1, 1) := by decide +kernel
theorem dX4_character_20 : decode cX4_character 20 = .ok (.putfield 39, 3) := by decide +kernel
theorem dX4_character_23 : decode cX4_character 23 = .ok (.aload_n 0, 1) := by decide +kernel
theorem dX4_character_24 : decode cX4_character 24 = .ok (.getfield 39, 3) := by decide +kernel
theorem dX4_character_27 : decode cX4_character 27 = .ok (.ifCond .le 8, 3) := by decide +kernel
theorem dX4_character_30 : decode cX4_character 30 = .ok (.bipush 32, 2) := by decide +kernel
theorem dX4_character_32 : decode cX4_character 32 = .ok (.goto 9, 3) := by decide +kernel
theorem dX4_character_35 : decode cX4_character 35 = .ok (.aload_n 0, 1) := by decide +kernel
theorem dX4_character_36 : decode cX4_character 36 = .ok (.getfield 25, 3) := by decide +kernel
theorem dX4_character_39 : decode cX4_character 39 = .ok (.iload_n 1, 1) := by decide +kernel
theorem dX4_character_40 : decode cX4_character 40 = .ok (.caload, 1) := by decide +kernel
theorem dX4_character_41 : decode cX4_character 41 = .ok (.ireturn, 1) := by decide +kernel
theorem dX4_append_0 : decode cX4_append 0 = .ok (.aload_n 0, 1) := by decide +kernel
theorem dX4_append_1 : decode cX4_append 1 = .ok (.aload_n 0, 1) := by decide +kernel
theorem dX4_append_2 : decode cX4_append 2 = .ok (.getfield 207, 3) := by decide +kernel
theorem dX4_append_5 : decode cX4_append 5 = .ok (.bipush 60, 2) := by decide +kernel
theorem dX4_append_7 : decode cX4_append 7 = .ok (.if_icmp .ne 7, 3) := by decide +kernel
theorem dX4_append_10 : decode cX4_append 10 = .ok (.iconst 1, 1) := by decide +kernel
theorem dX4_append_11 : decode cX4_append 11 = .ok (.goto 4, 3) := by decide +kernel
theorem dX4_append_14 : decode cX4_append 14 = .ok (.iconst 0, 1) := by decide +kernel
theorem dX4_append_15 : decode cX4_append 15 = .ok (.putfield 39, 3) := by decide +kernel
theorem dX4_append_18 : decode cX4_append 18 = .ok (.aload_n 0, 1) := by decide +kernel
theorem dX4_append_19 : decode cX4_append 19 = .ok (.getfield 39, 3) := by decide +kernel
theorem dX4_append_22 : decode cX4_append 22 = .ok (.ifCond .le 5, 3) := by decide +kernel
theorem dX4_append_25 : decode cX4_append 25 = .ok (.iconst 0, 1) := by decide +kernel
theorem dX4_append_26 : decode cX4_append 26 = .ok (.ireturn, 1) := by decide +kernel
theorem dX4_append_27 : decode cX4_append 27 = .ok (.aload_n 0, 1) := by decide +kernel
theorem dX4_append_28 : decode cX4_append 28 = .ok (.getfield 29, 3) := by decide +kernel
theorem dX4_append_31 : decode cX4_append 31 = .ok (.aload_n 0, 1) := by decide +kernel
theorem dX4_append_32 : decode cX4_append 32 = .ok (.getfield 207, 3) := by decide +kernel
theorem dX4_append_35 : decode cX4_append 35 = .ok (.iload_n 1, 1) := by decide +kernel
theorem dX4_append_36 : decode cX4_append 36 = .ok (.castore, 1) := by decide +kernel
theorem dX4_append_37 : decode cX4_append 37 = .ok (.aload_n 0, 1) := by decide +kernel
theorem dX4_append_38 : decode cX4_append 38 = .ok (.dup, 1) := by decide +kernel
theorem dX4_append_39 : decode cX4_append 39 = .ok (.getfield 207, 3) := by decide +kernel
theorem dX4_append_42 : decode cX4_append 42 = .ok (.iconst 1, 1) := by decide +kernel
theorem dX4_append_43 : decode cX4_append 43 = .ok (.iadd, 1) := by decide +kernel
theorem dX4_append_44 : decode cX4_append 44 = .ok (.putfield 207, 3) := by decide +kernel
theorem dX4_append_47 : decode cX4_append 47 = .ok (.aload_n 0, 1) := by decide +kernel
theorem dX4_append_48 : decode cX4_append 48 = .ok (.getfield 207, 3) := by decide +kernel
theorem dX4_append_51 : decode cX4_append 51 = .ok (.ireturn, 1) := by decide +kernel
theorem dX4_isHere_0 : decode cX4_isHere 0 = .ok (.aload_n 0, 1) := by decide +kernel
theorem dX4_isHere_1 : decode cX4_isHere 1 = .ok (.getfield 210, 3) := by decide +kernel
theorem dX4_isHere_4 : decode cX4_isHere 4 = .ok (.ifCond .ne 35, 3) := by decide +kernel
theorem dX4_isHere_7 : decode cX4_isHere 7 = .ok (.aload_n 0, 1) := by decide +kernel
theorem dX4_isHere_8 : decode cX4_isHere 8 = .ok (.getfield 213, 3) := by decide +kernel
theorem dX4_isHere_11 : decode cX4_isHere 11 = .ok (.aload_n 0, 1) := by decide +kernel
theorem dX4_isHere_12 : decode cX4_isHere 12 = .ok (.getfield 207, 3) := by decide +kernel
theorem dX4_isHere_15 : decode cX4_isHere 15 = .ok (.if_icmp .ge 24, 3) := by decide +kernel
theorem dX4_isHere_18 : decode cX4_isHere 18 = .ok (.aload_n 0, 1) := by decide +kernel
theorem dX4_isHere_19 : decode cX4_isHere 19 = .ok (.getfield 29, 3) := by decide +kernel
theorem dX4_isHere_22 : decode cX4_isHere 22 = .ok (.aload_n 0, 1) := by decide +kernel
theorem dX4_isHere_23 : decode cX4_isHere 23 = .ok (.getfield 213, 3) := by decide +kernel
theorem dX4_isHere_26 : decode cX4_isHere 26 = .ok (.caload, 1) := by decide +kernel
theorem dX4_isHere_27 : decode cX4_isHere 27 = .ok (.iload_n 1, 1) := by decide +kernel
theorem dX4_isHere_28 : decode cX4_isHere 28 = .ok (.iload_n 2, 1) := by decide +kernel
theorem dX4_isHere_29 : decode cX4_isHere 29 = .ok (.invokestatic 61, 3) := by decide +kernel
theorem dX4_isHere_32 : decode cX4_isHere 32 = .ok (.ifCond .eq 7, 3) := by decide +kernel
theorem dX4_isHere_35 : decode cX4_isHere 35 = .ok (.iconst 1, 1) := by decide +kernel
theorem dX4_isHere_36 : decode cX4_isHere 36 = .ok (.goto 4, 3) := by decide +kernel
theorem dX4_isHere_39 : decode cX4_isHere 39 = .ok (.iconst 0, 1) := by decide +kernel
theorem dX4_isHere_40 : decode cX4_isHere 40 = .ok (.ireturn, 1) := by decide +kernel
theorem dX4_sign_0 : decode cX4_sign 0 = .ok (.aload_n 0, 1) := by decide +kernel
theorem dX4_sign_1 : decode cX4_sign 1 = .ok (.aload_n 0, 1) := by decide +kernel
theorem dX4_sign_2 : decode cX4_sign 2 = .ok (.getfield 210, 3) := by decide +kernel
theorem dX4_sign_5 : decode cX4_sign 5 = .ok (.ifCond .ne 12, 3) := by decide +kernel
theorem dX4_sign_8 : decode cX4_sign 8 = .ok (.aload_n 0, 1) := by decide +kernel
theorem dX4_sign_9 : decode cX4_sign 9 = .ok (.iload_n 1, 1) := by decide +kernel
theorem dX4_sign_10 : decode cX4_sign 10 = .ok (.iload_n 2, 1) := by decide +kernel
theorem dX4_sign_11 : decode cX4_sign 11 = .ok (.invokevirtual 215, 3) := by decide +kernel
theorem dX4_sign_14 : decode cX4_sign 14 = .ok (.ifCond .ne 7, 3) := by decide +kernel
theorem dX4_sign_17 : decode cX4_sign 17 = .ok (.iconst 1, 1) := by decide +kernel
theorem dX4_sign_18 : decode cX4_sign 18 = .ok (.goto 4, 3) := by decide +kernel
theorem dX4_sign_21 : decode cX4_sign 21 = .ok (.iconst 0, 1) := by decide +kernel
theorem dX4_sign_22 : decode cX4_sign 22 = .ok (.putfield 210, 3) := by decide +kernel
theorem dX4_sign_25 : decode cX4_sign 25 = .ok (.aload_n 0, 1) := by decide +kernel
theorem dX4_sign_26 : decode cX4_sign 26 = .ok (.getfield 210, 3) := by decide +kernel
theorem dX4_sign_29 : decode cX4_sign 29 = .ok (.ifCond .eq 5, 3) := by decide +kernel
theorem dX4_sign_32 : decode cX4_sign 32 = .ok (.iconst 0, 1) := by decide +kernel
theorem dX4_sign_33 : decode cX4_sign 33 = .ok (.ireturn, 1) := by decide +kernel
theorem dX4_sign_34 : decode cX4_sign 34 = .ok (.aload_n 0, 1) := by decide +kernel
theorem dX4_sign_35 : decode cX4_sign 35 = .ok (.dup, 1) := by decide +kernel
theorem dX4_sign_36 : decode cX4_sign 36 = .ok (.getfield 213, 3) := by decide +kernel
theorem dX4_sign_39 : decode cX4_sign 39 = .ok (.iconst 1, 1) := by decide +kernel
theorem dX4_sign_40 : decode cX4_sign 40 = .ok (.iadd, 1) := by decide +kernel
theorem dX4_sign_41 : decode cX4_sign 41 = .ok (.putfield 213, 3) := by decide +kernel
theorem dX4_sign_44 : decode cX4_sign 44 = .ok (.aload_n 0, 1) := by decide +kernel
theorem dX4_sign_45 : decode cX4_sign 45 = .ok (.getfield 29, 3) := by decide +kernel
theorem dX4_sign_48 : decode cX4_sign 48 = .ok (.aload_n 0, 1) := by decide +kernel
theorem dX4_sign_49 : decode cX4_sign 49 = .ok (.getfield 213, 3) := by decide +kernel
theorem dX4_sign_52 : decode cX4_sign 52 = .ok (.iconst 1, 1) := by decide +kernel
theorem dX4_sign_53 : decode cX4_sign 53 = .ok (.isub, 1) := by decide +kernel
theorem dX4_sign_54 : decode cX4_sign 54 = .ok (.caload, 1) := by decide +kernel
theorem dX4_sign_55 : decode cX4_sign 55 = .ok (.iload_n 1, 1) := by decide +kernel
theorem dX4_sign_56 : decode cX4_sign 56 = .ok (.isub, 1) := by decide +kernel
theorem dX4_sign_57 : decode cX4_sign 57 = .ok (.ireturn, 1) := by decide +kernel
theorem dX4_number_0 : decode cX4_number 0 = .ok (.aload_n 0, 1) := by decide +kernel
theorem dX4_number_1 : decode cX4_number 1 = .ok (.bipush 48, 2) := by decide +kernel
theorem dX4_number_3 : decode cX4_number 3 = .ok (.bipush 57, 2) := by decide +kernel
theorem dX4_number_5 : decode cX4_number 5 = .ok (.invokevirtual 219, 3) := by decide +kernel
theorem dX4_number_8 : decode cX4_number 8 = .ok (.istore_n 1, 1) := by decide +kernel
theorem dX4_number_9 : decode cX4_number 9 = .ok (.aload_n 0, 1) := by decide +kernel
theorem dX4_number_10 : decode cX4_number 10 = .ok (.bipush 48, 2) := by decide +kernel
theorem dX4_number_12 : decode cX4_number 12 = .ok (.bipush 57, 2) := by decide +kernel
theorem dX4_number_14 : decode cX4_number 14 = .ok (.invokevirtual 215, 3) := by decide +kernel
theorem dX4_number_17 : decode cX4_number 17 = .ok (.ifCond .eq 19, 3) := by decide +kernel
theorem dX4_number_20 : decode cX4_number 20 = .ok (.bipush 10, 2) := by decide +kernel
theorem dX4_number_22 : decode cX4_number 22 = .ok (.iload_n 1, 1) := by decide +kernel
theorem dX4_number_23 : decode cX4_number 23 = .ok (.imul, 1) := by decide +kernel
theorem dX4_number_24 : decode cX4_number 24 = .ok (.aload_n 0, 1) := by decide +kernel
theorem dX4_number_25 : decode cX4_number 25 = .ok (.bipush 48, 2) := by decide +kernel
theorem dX4_number_27 : decode cX4_number 27 = .ok (.bipush 57, 2) := by decide +kernel
theorem dX4_number_29 : decode cX4_number 29 = .ok (.invokevirtual 219, 3) := by decide +kernel
theorem dX4_number_32 : decode cX4_number 32 = .ok (.iadd, 1) := by decide +kernel
theorem dX4_number_33 : decode cX4_number 33 = .ok (.goto 4, 3) := by decide +kernel
theorem dX4_number_36 : decode cX4_number 36 = .ok (.iload_n 1, 1) := by decide +kernel
theorem dX4_number_37 : decode cX4_number 37 = .ok (.ireturn, 1) := by decide +kernel
theorem dX4_letters_0 : decode cX4_letters 0 = .ok (.aload_n 0, 1) := by decide +kernel
theorem dX4_letters_1 : decode cX4_letters 1 = .ok (.bipush 97, 2) := by decide +kernel
theorem dX4_letters_3 : decode cX4_letters 3 = .ok (.bipush 106, 2) := by decide +kernel
theorem dX4_letters_5 : decode cX4_letters 5 = .ok (.invokevirtual 219, 3) := by decide +kernel
theorem dX4_letters_8 : decode cX4_letters 8 = .ok (.istore_n 1, 1) := by decide +kernel
theorem dX4_letters_9 : decode cX4_letters 9 = .ok (.iconst 1, 1) := by decide +kernel
theorem dX4_letters_10 : decode cX4_letters 10 = .ok (.iload_n 1, 1) := by decide +kernel
theorem dX4_letters_11 : decode cX4_letters 11 = .ok (.ishl, 1) := by decide +kernel
theorem dX4_letters_12 : decode cX4_letters 12 = .ok (.istore_n 2, 1) := by decide +kernel
theorem dX4_letters_13 : decode cX4_letters 13 = .ok (.iload_n 1, 1) := by decide +kernel
theorem dX4_letters_14 : decode cX4_letters 14 = .ok (.bipush 9, 2) := by decide +kernel
theorem dX4_letters_16 : decode cX4_letters 16 = .ok (.if_icmp .ge 51, 3) := by decide +kernel
theorem dX4_letters_19 : decode cX4_letters 19 = .ok (.aload_n 0, 1) := by decide +kernel
theorem dX4_letters_20 : decode cX4_letters 20 = .ok (.bipush 97, 2) := by decide +kernel
theorem dX4_letters_22 : decode cX4_letters 22 = .ok (.iload_n 1, 1) := by decide +kernel
theorem dX4_letters_23 : decode cX4_letters 23 = .ok (.iadd, 1) := by decide +kernel
theorem dX4_letters_24 : decode cX4_letters 24 = .ok (.iconst 1, 1) := by decide +kernel
theorem dX4_letters_25 : decode cX4_letters 25 = .ok (.iadd, 1) := by decide +kernel
theorem dX4_letters_26 : decode cX4_letters 26 = .ok (.i2c, 1) := by decide +kernel
theorem dX4_letters_27 : decode cX4_letters 27 = .ok (.bipush 106, 2) := by decide +kernel
theorem dX4_letters_29 : decode cX4_letters 29 = .ok (.invokevirtual 215, 3) := by decide +kernel
theorem dX4_letters_32 : decode cX4_letters 32 = .ok (.ifCond .eq 35, 3) := by decide +kernel
theorem dX4_letters_35 : decode cX4_letters 35 = .ok (.aload_n 0, 1) := by decide +kernel
theorem dX4_letters_36 : decode cX4_letters 36 = .ok (.getfield 29, 3) := by decide +kernel
theorem dX4_letters_39 : decode cX4_letters 39 = .ok (.aload_n 0, 1) := by decide +kernel
theorem dX4_letters_40 : decode cX4_letters 40 = .ok (.getfield 213, 3) := by decide +kernel
theorem dX4_letters_43 : decode cX4_letters 43 = .ok (.caload, 1) := by decide +kernel
theorem dX4_letters_44 : decode cX4_letters 44 = .ok (.bipush 97, 2) := by decide +kernel
theorem dX4_letters_46 : decode cX4_letters 46 = .ok (.isub, 1) := by decide +kernel
theorem dX4_letters_47 : decode cX4_letters 47 = .ok (.istore_n 1, 1) := by decide +kernel
theorem dX4_letters_48 : decode cX4_letters 48 = .ok (.aload_n 0, 1) := by decide +kernel
theorem dX4_letters_49 : decode cX4_letters 49 = .ok (.dup, 1) := by decide +kernel
theorem dX4_letters_50 : decode cX4_letters 50 = .ok (.getfield 213, 3) := by decide +kernel
theorem dX4_letters_53 : decode cX4_letters 53 = .ok (.iconst 1, 1) := by decide +kernel
theorem dX4_letters_54 : decode cX4_letters 54 = .ok (.iadd, 1) := by decide +kernel
theorem dX4_letters_55 : decode cX4_letters 55 = .ok (.putfield 213, 3) := by decide +kernel
theorem dX4_letters_58 : decode cX4_letters 58 = .ok (.iload_n 2, 1) := by decide +kernel
theorem dX4_letters_59 : decode cX4_letters 59 = .ok (.iconst 1, 1) := by decide +kernel
theorem dX4_letters_60 : decode cX4_letters 60 = .ok (.iload_n 1, 1) := by decide +kernel
theorem dX4_letters_61 : decode cX4_letters 61 = .ok (.ishl, 1) := by decide +kernel
theorem dX4_letters_62 : decode cX4_letters 62 = .ok (.ior, 1) := by decide +kernel
theorem dX4_letters_63 : decode cX4_letters 63 = .ok (.istore_n 2, 1) := by decide +kernel
theorem dX4_letters_64 : decode cX4_letters 64 = .ok (.goto (-51), 3) := by decide +kernel
theorem dX4_letters_67 : decode cX4_letters 67 = .ok (.iload_n 2, 1) := by decide +kernel
theorem dX4_letters_68 : decode cX4_letters 68 = .ok (.ireturn, 1) := by decide +kernel
theorem dX4_readOrder_0 : decode cX4_readOrder 0 = .ok (.aload_n 0, 1) := by decide +kernel
theorem dX4_readOrder_1 : decode cX4_readOrder 1 = .ok (.getfield 210, 3) := by decide +kernel
theorem dX4_readOrder_4 : decode cX4_readOrder 4 = .ok (.ifCond .eq 4, 3) := by decide +kernel
theorem dX4_readOrder_7 : decode cX4_readOrder 7 = .ok (.return_, 1) := by decide +kernel
theorem dX4_readOrder_8 : decode cX4_readOrder 8 = .ok (.aload_n 0, 1) := by decide +kernel
theorem dX4_readOrder_9 : decode cX4_readOrder 9 = .ok (.getfield 213, 3) := by decide +kernel
theorem dX4_readOrder_12 : decode cX4_readOrder 12 = .ok (.aload_n 0, 1) := by decide +kernel
theorem dX4_readOrder_13 : decode cX4_readOrder 13 = .ok (.getfield 207, 3) := by decide +kernel
theorem dX4_readOrder_16 : decode cX4_readOrder 16 = .ok (.if_icmp .ge 15, 3) := by decide +kernel
theorem dX4_readOrder_19 : decode cX4_readOrder 19 = .ok (.aload_n 0, 1) := by decide +kernel
theorem dX4_readOrder_20 : decode cX4_readOrder 20 = .ok (.getfield 29, 3) := by decide +kernel
theorem dX4_readOrder_23 : decode cX4_readOrder 23 = .ok (.aload_n 0, 1) := by decide +kernel
theorem dX4_readOrder_24 : decode cX4_readOrder 24 = .ok (.getfield 213, 3) := by decide +kernel
theorem dX4_readOrder_27 : decode cX4_readOrder 27 = .ok (.caload, 1) := by decide +kernel
theorem dX4_readOrder_28 : decode cX4_readOrder 28 = .ok (.goto 4, 3) := by decide +kernel
theorem dX4_readOrder_31 : decode cX4_readOrder 31 = .ok (.iconst 0, 1) := by decide +kernel
theorem dX4_readOrder_32 : decode cX4_readOrder 32 = .ok (.istore_n 1, 1) := by decide +kernel
theorem dX4_readOrder_33 : decode cX4_readOrder 33 = .ok (.iload_n 1, 1) := by decide +kernel
theorem dX4_readOrder_34 : decode cX4_readOrder 34 = .ok (.bipush 43, 2) := by decide +kernel
theorem dX4_readOrder_36 : decode cX4_readOrder 36 = .ok (.if_icmp .eq 39, 3) := by decide +kernel
theorem dX4_readOrder_39 : decode cX4_readOrder 39 = .ok (.iload_n 1, 1) := by decide +kernel
theorem dX4_readOrder_40 : decode cX4_readOrder 40 = .ok (.bipush 45, 2) := by decide +kernel
theorem dX4_readOrder_42 : decode cX4_readOrder 42 = .ok (.if_icmp .eq 33, 3) := by decide +kernel
theorem dX4_readOrder_45 : decode cX4_readOrder 45 = .ok (.iload_n 1, 1) := by decide +kernel
theorem dX4_readOrder_46 : decode cX4_readOrder 46 = .ok (.bipush 120, 2) := by decide +kernel
theorem dX4_readOrder_48 : decode cX4_readOrder 48 = .ok (.if_icmp .eq 27, 3) := by decide +kernel
theorem dX4_readOrder_51 : decode cX4_readOrder 51 = .ok (.iload_n 1, 1) := by decide +kernel
theorem dX4_readOrder_52 : decode cX4_readOrder 52 = .ok (.bipush 103, 2) := by decide +kernel
theorem dX4_readOrder_54 : decode cX4_readOrder 54 = .ok (.if_icmp .eq 21, 3) := by decide +kernel
theorem dX4_readOrder_57 : decode cX4_readOrder 57 = .ok (.iload_n 1, 1) := by decide +kernel
theorem dX4_readOrder_58 : decode cX4_readOrder 58 = .ok (.bipush 116, 2) := by decide +kernel
theorem dX4_readOrder_60 : decode cX4_readOrder 60 = .ok (.if_icmp .eq 15, 3) := by decide +kernel
theorem dX4_readOrder_63 : decode cX4_readOrder 63 = .ok (.iload_n 1, 1) := by decide +kernel
theorem dX4_readOrder_64 : decode cX4_readOrder 64 = .ok (.bipush 100, 2) := by decide +kernel
theorem dX4_readOrder_66 : decode cX4_readOrder 66 = .ok (.if_icmp .eq 9, 3) := by decide +kernel
theorem dX4_readOrder_69 : decode cX4_readOrder 69 = .ok (.aload_n 0, 1) := by decide +kernel
theorem dX4_readOrder_70 : decode cX4_readOrder 70 = .ok (.iconst 1, 1) := by decide +kernel
theorem dX4_readOrder_71 : decode cX4_readOrder 71 = .ok (.putfield 210, 3) := by decide +kernel
theorem dX4_readOrder_74 : decode cX4_readOrder 74 = .ok (.return_, 1) := by decide +kernel
theorem dX4_readOrder_75 : decode cX4_readOrder 75 = .ok (.aload_n 0, 1) := by decide +kernel
theorem dX4_readOrder_76 : decode cX4_readOrder 76 = .ok (.dup, 1) := by decide +kernel
theorem dX4_readOrder_77 : decode cX4_readOrder 77 = .ok (.getfield 213, 3) := by decide +kernel
theorem dX4_readOrder_80 : decode cX4_readOrder 80 = .ok (.iconst 1, 1) := by decide +kernel
theorem dX4_readOrder_81 : decode cX4_readOrder 81 = .ok (.iadd, 1) := by decide +kernel
theorem dX4_readOrder_82 : decode cX4_readOrder 82 = .ok (.putfield 213, 3) := by decide +kernel
theorem dX4_readOrder_85 : decode cX4_readOrder 85 = .ok (.iconst 3, 1) := by decide +kernel
theorem dX4_readOrder_86 : decode cX4_readOrder 86 = .ok (.aload_n 0, 1) := by decide +kernel
theorem dX4_readOrder_87 : decode cX4_readOrder 87 = .ok (.getfield 223, 3) := by decide +kernel
theorem dX4_readOrder_90 : decode cX4_readOrder 90 = .ok (.imul, 1) := by decide +kernel
theorem dX4_readOrder_91 : decode cX4_readOrder 91 = .ok (.istore_n 2, 1) := by decide +kernel
theorem dX4_readOrder_92 : decode cX4_readOrder 92 = .ok (.aload_n 0, 1) := by decide +kernel
theorem dX4_readOrder_93 : decode cX4_readOrder 93 = .ok (.getfield 36, 3) := by decide +kernel
theorem dX4_readOrder_96 : decode cX4_readOrder 96 = .ok (.iload_n 2, 1) := by decide +kernel
theorem dX4_readOrder_97 : decode cX4_readOrder 97 = .ok (.iload_n 1, 1) := by decide +kernel
theorem dX4_readOrder_98 : decode cX4_readOrder 98 = .ok (.iastore, 1) := by decide +kernel
theorem dX4_readOrder_99 : decode cX4_readOrder 99 = .ok (.aload_n 0, 1) := by decide +kernel
theorem dX4_readOrder_100 : decode cX4_readOrder 100 = .ok (.dup, 1) := by decide +kernel
theorem dX4_readOrder_101 : decode cX4_readOrder 101 = .ok (.getfield 223, 3) := by decide +kernel
theorem dX4_readOrder_104 : decode cX4_readOrder 104 = .ok (.iconst 1, 1) := by decide +kernel
theorem dX4_readOrder_105 : decode cX4_readOrder 105 = .ok (.iadd, 1) := by decide +kernel
theorem dX4_readOrder_106 : decode cX4_readOrder 106 = .ok (.putfield 223, 3) := by decide +kernel
theorem dX4_readOrder_109 : decode cX4_readOrder 109 = .ok (.iload_n 1, 1) := by decide +kernel
theorem dX4_readOrder_110 : decode cX4_readOrder 110 = .ok (.bipush 43, 2) := by decide +kernel
theorem dX4_readOrder_112 : decode cX4_readOrder 112 = .ok (.if_icmp .eq 9, 3) := by decide +kernel
theorem dX4_readOrder_115 : decode cX4_readOrder 115 = .ok (.iload_n 1, 1) := by decide +kernel
theorem dX4_readOrder_116 : decode cX4_readOrder 116 = .ok (.bipush 45, 2) := by decide +kernel
theorem dX4_readOrder_118 : decode cX4_readOrder 118 = .ok (.if_icmp .ne 18, 3) := by decide +kernel
theorem dX4_readOrder_121 : decode cX4_readOrder 121 = .ok (.aload_n 0, 1) := by decide +kernel
theorem dX4_readOrder_122 : decode cX4_readOrder 122 = .ok (.getfield 36, 3) := by decide +kernel
theorem dX4_readOrder_125 : decode cX4_readOrder 125 = .ok (.iload_n 2, 1) := by decide +kernel
theorem dX4_readOrder_126 : decode cX4_readOrder 126 = .ok (.iconst 1, 1) := by decide +kernel
theorem dX4_readOrder_127 : decode cX4_readOrder 127 = .ok (.iadd, 1) := by decide +kernel
theorem dX4_readOrder_128 : decode cX4_readOrder 128 = .ok (.aload_n 0, 1) := by decide +kernel
theorem dX4_readOrder_129 : decode cX4_readOrder 129 = .ok (.invokevirtual 226, 3) := by decide +kernel
theorem dX4_readOrder_132 : decode cX4_readOrder 132 = .ok (.iastore, 1) := by decide +kernel
theorem dX4_readOrder_133 : decode cX4_readOrder 133 = .ok (.goto 46, 3) := by decide +kernel
theorem dX4_readOrder_136 : decode cX4_readOrder 136 = .ok (.iload_n 1, 1) := by decide +kernel
theorem dX4_readOrder_137 : decode cX4_readOrder 137 = .ok (.bipush 116, 2) := by decide +kernel
theorem dX4_readOrder_139 : decode cX4_readOrder 139 = .ok (.if_icmp .eq 9, 3) := by decide +kernel
theorem dX4_readOrder_142 : decode cX4_readOrder 142 = .ok (.iload_n 1, 1) := by decide +kernel
theorem dX4_readOrder_143 : decode cX4_readOrder 143 = .ok (.bipush 100, 2) := by decide +kernel
theorem dX4_readOrder_145 : decode cX4_readOrder 145 = .ok (.if_icmp .ne 22, 3) := by decide +kernel
theorem dX4_readOrder_148 : decode cX4_readOrder 148 = .ok (.aload_n 0, 1) := by decide +kernel
theorem dX4_readOrder_149 : decode cX4_readOrder 149 = .ok (.getfield 36, 3) := by decide +kernel
theorem dX4_readOrder_152 : decode cX4_readOrder 152 = .ok (.iload_n 2, 1) := by decide +kernel
theorem dX4_readOrder_153 : decode cX4_readOrder 153 = .ok (.iconst 1, 1) := by decide +kernel
theorem dX4_readOrder_154 : decode cX4_readOrder 154 = .ok (.iadd, 1) := by decide +kernel
theorem dX4_readOrder_155 : decode cX4_readOrder 155 = .ok (.aload_n 0, 1) := by decide +kernel
theorem dX4_readOrder_156 : decode cX4_readOrder 156 = .ok (.bipush 48, 2) := by decide +kernel
theorem dX4_readOrder_158 : decode cX4_readOrder 158 = .ok (.bipush 57, 2) := by decide +kernel
theorem dX4_readOrder_160 : decode cX4_readOrder 160 = .ok (.invokevirtual 219, 3) := by decide +kernel
theorem dX4_readOrder_163 : decode cX4_readOrder 163 = .ok (.iastore, 1) := by decide +kernel
theorem dX4_readOrder_164 : decode cX4_readOrder 164 = .ok (.goto 15, 3) := by decide +kernel
theorem dX4_readOrder_167 : decode cX4_readOrder 167 = .ok (.aload_n 0, 1) := by decide +kernel
theorem dX4_readOrder_168 : decode cX4_readOrder 168 = .ok (.getfield 36, 3) := by decide +kernel
theorem dX4_readOrder_171 : decode cX4_readOrder 171 = .ok (.iload_n 2, 1) := by decide +kernel
theorem dX4_readOrder_172 : decode cX4_readOrder 172 = .ok (.iconst 1, 1) := by decide +kernel
theorem dX4_readOrder_173 : decode cX4_readOrder 173 = .ok (.iadd, 1) := by decide +kernel
theorem dX4_readOrder_174 : decode cX4_readOrder 174 = .ok (.aload_n 0, 1) := by decide +kernel
theorem dX4_readOrder_175 : decode cX4_readOrder 175 = .ok (.invokevirtual 230, 3) := by decide +kernel
theorem dX4_readOrder_178 : decode cX4_readOrder 178 = .ok (.iastore, 1) := by decide +kernel
theorem dX4_readOrder_179 : decode cX4_readOrder 179 = .ok (.iload_n 1, 1) := by decide +kernel
theorem dX4_readOrder_180 : decode cX4_readOrder 180 = .ok (.bipush 116, 2) := by decide +kernel
theorem dX4_readOrder_182 : decode cX4_readOrder 182 = .ok (.if_icmp .ne 24, 3) := by decide +kernel
theorem dX4_readOrder_185 : decode cX4_readOrder 185 = .ok (.aload_n 0, 1) := by decide +kernel
theorem dX4_readOrder_186 : decode cX4_readOrder 186 = .ok (.bipush 58, 2) := by decide +kernel
theorem dX4_readOrder_188 : decode cX4_readOrder 188 = .ok (.bipush 58, 2) := by decide +kernel
theorem dX4_readOrder_190 : decode cX4_readOrder 190 = .ok (.invokevirtual 219, 3) := by decide +kernel
theorem dX4_readOrder_193 : decode cX4_readOrder 193 = .ok (.istore_n 3, 1) := by decide +kernel
theorem dX4_readOrder_194 : decode cX4_readOrder 194 = .ok (.aload_n 0, 1) := by decide +kernel
theorem dX4_readOrder_195 : decode cX4_readOrder 195 = .ok (.getfield 36, 3) := by decide +kernel
theorem dX4_readOrder_198 : decode cX4_readOrder 198 = .ok (.iload_n 2, 1) := by decide +kernel
theorem dX4_readOrder_199 : decode cX4_readOrder 199 = .ok (.iconst 2, 1) := by decide +kernel
theorem dX4_readOrder_200 : decode cX4_readOrder 200 = .ok (.iadd, 1) := by decide +kernel
theorem dX4_readOrder_201 : decode cX4_readOrder 201 = .ok (.aload_n 0, 1) := by decide +kernel
theorem dX4_readOrder_202 : decode cX4_readOrder 202 = .ok (.invokevirtual 230, 3) := by decide +kernel
theorem dX4_readOrder_205 : decode cX4_readOrder 205 = .ok (.iastore, 1) := by decide +kernel
theorem dX4_readOrder_206 : decode cX4_readOrder 206 = .ok (.return_, 1) := by decide +kernel
theorem dX4_does_0 : decode cX4_does 0 = .ok (.aload_n 0, 1) := by decide +kernel
theorem dX4_does_1 : decode cX4_does 1 = .ok (.getfield 36, 3) := by decide +kernel
theorem dX4_does_4 : decode cX4_does 4 = .ok (.iconst 3, 1) := by decide +kernel
theorem dX4_does_5 : decode cX4_does 5 = .ok (.iload_n 1, 1) := by decide +kernel
theorem dX4_does_6 : decode cX4_does 6 = .ok (.imul, 1) := by decide +kernel
theorem dX4_does_7 : decode cX4_does 7 = .ok (.iconst 1, 1) := by decide +kernel
theorem dX4_does_8 : decode cX4_does 8 = .ok (.iadd, 1) := by decide +kernel
theorem dX4_does_9 : decode cX4_does 9 = .ok (.iaload, 1) := by decide +kernel
theorem dX4_does_10 : decode cX4_does 10 = .ok (.istore_n 2, 1) := by decide +kernel
theorem dX4_does_11 : decode cX4_does 11 = .ok (.aload_n 0, 1) := by decide +kernel
theorem dX4_does_12 : decode cX4_does 12 = .ok (.getfield 36, 3) := by decide +kernel
theorem dX4_does_15 : decode cX4_does 15 = .ok (.iconst 3, 1) := by decide +kernel
theorem dX4_does_16 : decode cX4_does 16 = .ok (.iload_n 1, 1) := by decide +kernel
theorem dX4_does_17 : decode cX4_does 17 = .ok (.imul, 1) := by decide +kernel
theorem dX4_does_18 : decode cX4_does 18 = .ok (.iaload, 1) := by decide +kernel
theorem dX4_does_19 : decode cX4_does 19 = .ok (.lookupswitch 106 #[(43, 49), (45, 59), (103, 78), (116, 87), (120, 69)], 49) := by decide +kernel
theorem dX4_does_68 : decode cX4_does 68 = .ok (.aload_n 0, 1) := by decide +kernel
theorem dX4_does_69 : decode cX4_does 69 = .ok (.iload_n 2, 1) := by decide +kernel
theorem dX4_does_70 : decode cX4_does 70 = .ok (.iconst 1, 1) := by decide +kernel
theorem dX4_does_71 : decode cX4_does 71 = .ok (.invokevirtual 100, 3) := by decide +kernel
theorem dX4_does_74 : decode cX4_does 74 = .ok (.istore_n 3, 1) := by decide +kernel
theorem dX4_does_75 : decode cX4_does 75 = .ok (.goto 56, 3) := by decide +kernel
theorem dX4_does_78 : decode cX4_does 78 = .ok (.aload_n 0, 1) := by decide +kernel
theorem dX4_does_79 : decode cX4_does 79 = .ok (.iload_n 2, 1) := by decide +kernel
theorem dX4_does_80 : decode cX4_does 80 = .ok (.iconst 0, 1) := by decide +kernel
theorem dX4_does_81 : decode cX4_does 81 = .ok (.invokevirtual 100, 3) := by decide +kernel
theorem dX4_does_84 : decode cX4_does 84 = .ok (.istore_n 3, 1) := by decide +kernel
theorem dX4_does_85 : decode cX4_does 85 = .ok (.goto 46, 3) := by decide +kernel
theorem dX4_does_88 : decode cX4_does 88 = .ok (.aload_n 0, 1) := by decide +kernel
theorem dX4_does_89 : decode cX4_does 89 = .ok (.iload_n 2, 1) := by decide +kernel
theorem dX4_does_90 : decode cX4_does 90 = .ok (.invokevirtual 107, 3) := by decide +kernel
theorem dX4_does_93 : decode cX4_does 93 = .ok (.istore_n 3, 1) := by decide +kernel
theorem dX4_does_94 : decode cX4_does 94 = .ok (.goto 37, 3) := by decide +kernel
theorem dX4_does_97 : decode cX4_does 97 = .ok (.aload_n 0, 1) := by decide +kernel
theorem dX4_does_98 : decode cX4_does 98 = .ok (.iload_n 2, 1) := by decide +kernel
theorem dX4_does_99 : decode cX4_does 99 = .ok (.invokevirtual 80, 3) := by decide +kernel
theorem dX4_does_102 : decode cX4_does 102 = .ok (.istore_n 3, 1) := by decide +kernel
theorem dX4_does_103 : decode cX4_does 103 = .ok (.goto 28, 3) := by decide +kernel
theorem dX4_does_106 : decode cX4_does 106 = .ok (.aload_n 0, 1) := by decide +kernel
theorem dX4_does_107 : decode cX4_does 107 = .ok (.iload_n 2, 1) := by decide +kernel
theorem dX4_does_108 : decode cX4_does 108 = .ok (.aload_n 0, 1) := by decide +kernel
theorem dX4_does_109 : decode cX4_does 109 = .ok (.getfield 36, 3) := by decide +kernel
theorem dX4_does_112 : decode cX4_does 112 = .ok (.iconst 3, 1) := by decide +kernel
theorem dX4_does_113 : decode cX4_does 113 = .ok (.iload_n 1, 1) := by decide +kernel
theorem dX4_does_114 : decode cX4_does 114 = .ok (.imul, 1) := by decide +kernel
theorem dX4_does_115 : decode cX4_does 115 = .ok (.iconst 2, 1) := by decide +kernel
theorem dX4_does_116 : decode cX4_does 116 = .ok (.iadd, 1) := by decide +kernel
theorem dX4_does_117 : decode cX4_does 117 = .ok (.iaload, 1) := by decide +kernel
theorem dX4_does_118 : decode cX4_does 118 = .ok (.invokevirtual 175, 3) := by decide +kernel
theorem dX4_does_121 : decode cX4_does 121 = .ok (.istore_n 3, 1) := by decide +kernel
theorem dX4_does_122 : decode cX4_does 122 = .ok (.goto 9, 3) := by decide +kernel
theorem dX4_does_125 : decode cX4_does 125 = .ok (.aload_n 0, 1) := by decide +kernel
theorem dX4_does_126 : decode cX4_does 126 = .ok (.iload_n 2, 1) := by decide +kernel
theorem dX4_does_127 : decode cX4_does 127 = .ok (.invokevirtual 181, 3) := by decide +kernel
theorem dX4_does_130 : decode cX4_does 130 = .ok (.istore_n 3, 1) := by decide +kernel
theorem dX4_does_131 : decode cX4_does 131 = .ok (.return_, 1) := by decide +kernel
theorem dX4_run_0 : decode cX4_run 0 = .ok (.aload_n 0, 1) := by decide +kernel
theorem dX4_run_1 : decode cX4_run 1 = .ok (.iconst 0, 1) := by decide +kernel
theorem dX4_run_2 : decode cX4_run 2 = .ok (.putfield 213, 3) := by decide +kernel
theorem dX4_run_5 : decode cX4_run 5 = .ok (.aload_n 0, 1) := by decide +kernel
theorem dX4_run_6 : decode cX4_run 6 = .ok (.iconst 0, 1) := by decide +kernel
theorem dX4_run_7 : decode cX4_run 7 = .ok (.putfield 210, 3) := by decide +kernel
theorem dX4_run_10 : decode cX4_run 10 = .ok (.aload_n 0, 1) := by decide +kernel
theorem dX4_run_11 : decode cX4_run 11 = .ok (.iconst 0, 1) := by decide +kernel
theorem dX4_run_12 : decode cX4_run 12 = .ok (.putfield 223, 3) := by decide +kernel
theorem dX4_run_15 : decode cX4_run 15 = .ok (.aload_n 0, 1) := by decide +kernel
theorem dX4_run_16 : decode cX4_run 16 = .ok (.invokevirtual 233, 3) := by decide +kernel
theorem dX4_run_19 : decode cX4_run 19 = .ok (.aload_n 0, 1) := by decide +kernel
theorem dX4_run_20 : decode cX4_run 20 = .ok (.bipush 59, 2) := by decide +kernel
theorem dX4_run_22 : decode cX4_run 22 = .ok (.bipush 59, 2) := by decide +kernel
theorem dX4_run_24 : decode cX4_run 24 = .ok (.invokevirtual 215, 3) := by decide +kernel
theorem dX4_run_27 : decode cX4_run 27 = .ok (.ifCond .eq 20, 3) := by decide +kernel
theorem dX4_run_30 : decode cX4_run 30 = .ok (.aload_n 0, 1) := by decide +kernel
theorem dX4_run_31 : decode cX4_run 31 = .ok (.dup, 1) := by decide +kernel
theorem dX4_run_32 : decode cX4_run 32 = .ok (.getfield 213, 3) := by decide +kernel
theorem dX4_run_35 : decode cX4_run 35 = .ok (.iconst 1, 1) := by decide +kernel
theorem dX4_run_36 : decode cX4_run 36 = .ok (.iadd, 1) := by decide +kernel
theorem dX4_run_37 : decode cX4_run 37 = .ok (.putfield 213, 3) := by decide +kernel
theorem dX4_run_40 : decode cX4_run 40 = .ok (.aload_n 0, 1) := by decide +kernel
theorem dX4_run_41 : decode cX4_run 41 = .ok (.invokevirtual 233, 3) := by decide +kernel
theorem dX4_run_44 : decode cX4_run 44 = .ok (.goto (-25), 3) := by decide +kernel
theorem dX4_run_47 : decode cX4_run 47 = .ok (.aload_n 0, 1) := by decide +kernel
theorem dX4_run_48 : decode cX4_run 48 = .ok (.aload_n 0, 1) := by decide +kernel
theorem dX4_run_49 : decode cX4_run 49 = .ok (.getfield 210, 3) := by decide +kernel
theorem dX4_run_52 : decode cX4_run 52 = .ok (.ifCond .ne 14, 3) := by decide +kernel
theorem dX4_run_55 : decode cX4_run 55 = .ok (.aload_n 0, 1) := by decide +kernel
theorem dX4_run_56 : decode cX4_run 56 = .ok (.getfield 213, 3) := by decide +kernel
theorem dX4_run_59 : decode cX4_run 59 = .ok (.aload_n 0, 1) := by decide +kernel
theorem dX4_run_60 : decode cX4_run 60 = .ok (.getfield 207, 3) := by decide +kernel
theorem dX4_run_63 : decode cX4_run 63 = .ok (.if_icmp .ge 7, 3) := by decide +kernel
theorem dX4_run_66 : decode cX4_run 66 = .ok (.iconst 1, 1) := by decide +kernel
theorem dX4_run_67 : decode cX4_run 67 = .ok (.goto 4, 3) := by decide +kernel
theorem dX4_run_70 : decode cX4_run 70 = .ok (.iconst 0, 1) := by decide +kernel
theorem dX4_run_71 : decode cX4_run 71 = .ok (.putfield 210, 3) := by decide +kernel
theorem dX4_run_74 : decode cX4_run 74 = .ok (.aload_n 0, 1) := by decide +kernel
theorem dX4_run_75 : decode cX4_run 75 = .ok (.aload_n 0, 1) := by decide +kernel
theorem dX4_run_76 : decode cX4_run 76 = .ok (.getfield 210, 3) := by decide +kernel
theorem dX4_run_79 : decode cX4_run 79 = .ok (.ifCond .eq 10, 3) := by decide +kernel
theorem dX4_run_82 : decode cX4_run 82 = .ok (.aload_n 0, 1) := by decide +kernel
theorem dX4_run_83 : decode cX4_run 83 = .ok (.getfield 213, 3) := by decide +kernel
theorem dX4_run_86 : decode cX4_run 86 = .ok (.goto 4, 3) := by decide +kernel
theorem dX4_run_89 : decode cX4_run 89 = .ok (.iconst (-1), 1) := by decide +kernel
theorem dX4_run_90 : decode cX4_run 90 = .ok (.putfield 32, 3) := by decide +kernel
theorem dX4_run_93 : decode cX4_run 93 = .ok (.aload_n 0, 1) := by decide +kernel
theorem dX4_run_94 : decode cX4_run 94 = .ok (.iconst 0, 1) := by decide +kernel
theorem dX4_run_95 : decode cX4_run 95 = .ok (.putfield 207, 3) := by decide +kernel
theorem dX4_run_98 : decode cX4_run 98 = .ok (.aload_n 0, 1) := by decide +kernel
theorem dX4_run_99 : decode cX4_run 99 = .ok (.getfield 210, 3) := by decide +kernel
theorem dX4_run_102 : decode cX4_run 102 = .ok (.ifCond .eq 9, 3) := by decide +kernel
theorem dX4_run_105 : decode cX4_run 105 = .ok (.aload_n 0, 1) := by decide +kernel
theorem dX4_run_106 : decode cX4_run 106 = .ok (.iconst 1, 1) := by decide +kernel
theorem dX4_run_107 : decode cX4_run 107 = .ok (.invokevirtual 65, 3) := by decide +kernel
theorem dX4_run_110 : decode cX4_run 110 = .ok (.ireturn, 1) := by decide +kernel
theorem dX4_run_111 : decode cX4_run 111 = .ok (.aload_n 0, 1) := by decide +kernel
theorem dX4_run_112 : decode cX4_run 112 = .ok (.invokevirtual 77, 3) := by decide +kernel
theorem dX4_run_115 : decode cX4_run 115 = .ok (.iconst 0, 1) := by decide +kernel
theorem dX4_run_116 : decode cX4_run 116 = .ok (.istore_n 1, 1) := by decide +kernel
theorem dX4_run_117 : decode cX4_run 117 = .ok (.iload_n 1, 1) := by decide +kernel
theorem dX4_run_118 : decode cX4_run 118 = .ok (.aload_n 0, 1) := by decide +kernel
theorem dX4_run_119 : decode cX4_run 119 = .ok (.getfield 223, 3) := by decide +kernel
theorem dX4_run_122 : decode cX4_run 122 = .ok (.if_icmp .ge 48, 3) := by decide +kernel
theorem dX4_run_125 : decode cX4_run 125 = .ok (.aload_n 0, 1) := by decide +kernel
theorem dX4_run_126 : decode cX4_run 126 = .ok (.iconst 0, 1) := by decide +kernel
theorem dX4_run_127 : decode cX4_run 127 = .ok (.putfield 51, 3) := by decide +kernel
theorem dX4_run_130 : decode cX4_run 130 = .ok (.aload_n 0, 1) := by decide +kernel
theorem dX4_run_131 : decode cX4_run 131 = .ok (.iload_n 1, 1) := by decide +kernel
theorem dX4_run_132 : decode cX4_run 132 = .ok (.invokevirtual 236, 3) := by decide +kernel
theorem dX4_run_135 : decode cX4_run 135 = .ok (.aload_n 0, 1) := by decide +kernel
theorem dX4_run_136 : decode cX4_run 136 = .ok (.getfield 39, 3) := by decide +kernel
theorem dX4_run_139 : decode cX4_run 139 = .ok (.ifCond .le 25, 3) := by decide +kernel
theorem dX4_run_142 : decode cX4_run 142 = .ok (.aload_n 0, 1) := by decide +kernel
theorem dX4_run_143 : decode cX4_run 143 = .ok (.aload_n 0, 1) := by decide +kernel
theorem dX4_run_144 : decode cX4_run 144 = .ok (.getfield 51, 3) := by decide +kernel
theorem dX4_run_147 : decode cX4_run 147 = .ok (.ifCond .eq 7, 3) := by decide +kernel
theorem dX4_run_150 : decode cX4_run 150 = .ok (.iconst 2, 1) := by decide +kernel
theorem dX4_run_151 : decode cX4_run 151 = .ok (.goto 4, 3) := by decide +kernel
theorem dX4_run_154 : decode cX4_run 154 = .ok (.iconst 1, 1) := by decide +kernel
theorem dX4_run_155 : decode cX4_run 155 = .ok (.putfield 39, 3) := by decide +kernel
theorem dX4_run_158 : decode cX4_run 158 = .ok (.aload_n 0, 1) := by decide +kernel
theorem dX4_run_159 : decode cX4_run 159 = .ok (.iconst 0, 1) := by decide +kernel
theorem dX4_run_160 : decode cX4_run 160 = .ok (.invokevirtual 83, 3) := by decide +kernel
theorem dX4_run_163 : decode cX4_run 163 = .ok (.ireturn, 1) := by decide +kernel
theorem dX4_run_164 : decode cX4_run 164 = .ok (.iinc 1 1, 3) := by decide +kernel
theorem dX4_run_167 : decode cX4_run 167 = .ok (.goto (-50), 3) := by decide +kernel
theorem dX4_run_170 : decode cX4_run 170 = .ok (.aload_n 0, 1) := by decide +kernel
theorem dX4_run_171 : decode cX4_run 171 = .ok (.aload_n 0, 1) := by decide +kernel
theorem dX4_run_172 : decode cX4_run 172 = .ok (.getfield 223, 3) := by decide +kernel
theorem dX4_run_175 : decode cX4_run 175 = .ok (.invokevirtual 83, 3) := by decide +kernel
theorem dX4_run_178 : decode cX4_run 178 = .ok (.ireturn, 1) := by decide +kernel
theorem dX4_errorPosition_0 : decode cX4_errorPosition 0 = .ok (.aload_n 0, 1) := by decide +kernel
theorem dX4_errorPosition_1 : decode cX4_errorPosition 1 = .ok (.iconst 0, 1) := by decide +kernel
theorem dX4_errorPosition_2 : decode cX4_errorPosition 2 = .ok (.putfield 39, 3) := by decide +kernel
theorem dX4_errorPosition_5 : decode cX4_errorPosition 5 = .ok (.aload_n 0, 1) := by decide +kernel
theorem dX4_errorPosition_6 : decode cX4_errorPosition 6 = .ok (.getfield 32, 3) := by decide +kernel
theorem dX4_errorPosition_9 : decode cX4_errorPosition 9 = .ok (.ireturn, 1) := by decide +kernel
theorem dX4_friends_0 : decode cX4_friends 0 = .ok (.iconst 0, 1) := by decide +kernel
theorem dX4_friends_1 : decode cX4_friends 1 = .ok (.istore_n 1, 1) := by decide +kernel
theorem dX4_friends_2 : decode cX4_friends 2 = .ok (.iconst 0, 1) := by decide +kernel
theorem dX4_friends_3 : decode cX4_friends 3 = .ok (.istore_n 2, 1) := by decide +kernel
theorem dX4_friends_4 : decode cX4_friends 4 = .ok (.iload_n 2, 1) := by decide +kernel
theorem dX4_friends_5 : decode cX4_friends 5 = .ok (.aload_n 0, 1) := by decide +kernel
theorem dX4_friends_6 : decode cX4_friends 6 = .ok (.getfield 9, 3) := by decide +kernel
theorem dX4_friends_9 : decode cX4_friends 9 = .ok (.iconst 1, 1) := by decide +kernel
theorem dX4_friends_10 : decode cX4_friends 10 = .ok (.iaload, 1) := by decide +kernel
theorem dX4_friends_11 : decode cX4_friends 11 = .ok (.if_icmp .ge 25, 3) := by decide +kernel
theorem dX4_friends_14 : decode cX4_friends 14 = .ok (.iload_n 1, 1) := by decide +kernel
theorem dX4_friends_15 : decode cX4_friends 15 = .ok (.aload_n 0, 1) := by decide +kernel
theorem dX4_friends_16 : decode cX4_friends 16 = .ok (.iload_n 2, 1) := by decide +kernel
theorem dX4_friends_17 : decode cX4_friends 17 = .ok (.invokevirtual 128, 3) := by decide +kernel
theorem dX4_friends_20 : decode cX4_friends 20 = .ok (.ifCond .eq 7, 3) := by decide +kernel
theorem dX4_friends_23 : decode cX4_friends 23 = .ok (.iconst 1, 1) := by decide +kernel
theorem dX4_friends_24 : decode cX4_friends 24 = .ok (.goto 4, 3) := by decide +kernel
theorem dX4_friends_27 : decode cX4_friends 27 = .ok (.iconst 0, 1) := by decide +kernel
theorem dX4_friends_28 : decode cX4_friends 28 = .ok (.iadd, 1) := by decide +kernel
theorem dX4_friends_29 : decode cX4_friends 29 = .ok (.istore_n 1, 1) := by decide +kernel
theorem dX4_friends_30 : decode cX4_friends 30 = .ok (.iinc 2 1, 3) := by decide +kernel
theorem dX4_friends_33 : decode cX4_friends 33 = .ok (.goto (-29), 3) := by decide +kernel
theorem dX4_friends_36 : decode cX4_friends 36 = .ok (.iload_n 1, 1) := by decide +kernel
theorem dX4_friends_37 : decode cX4_friends 37 = .ok (.ireturn, 1) := by decide +kernel
theorem dX4_ofAll_0 : decode cX4_ofAll 0 = .ok (.iconst 0, 1) := by decide +kernel
theorem dX4_ofAll_1 : decode cX4_ofAll 1 = .ok (.istore_n 2, 1) := by decide +kernel
theorem dX4_ofAll_2 : decode cX4_ofAll 2 = .ok (.iconst 0, 1) := by decide +kernel
theorem dX4_ofAll_3 : decode cX4_ofAll 3 = .ok (.istore_n 3, 1) := by decide +kernel
theorem dX4_ofAll_4 : decode cX4_ofAll 4 = .ok (.iload_n 3, 1) := by decide +kernel
theorem dX4_ofAll_5 : decode cX4_ofAll 5 = .ok (.aload_n 0, 1) := by decide +kernel
theorem dX4_ofAll_6 : decode cX4_ofAll 6 = .ok (.getfield 9, 3) := by decide +kernel
theorem dX4_ofAll_9 : decode cX4_ofAll 9 = .ok (.iconst 0, 1) := by decide +kernel
theorem dX4_ofAll_10 : decode cX4_ofAll 10 = .ok (.iaload, 1) := by decide +kernel
theorem dX4_ofAll_11 : decode cX4_ofAll 11 = .ok (.if_icmp .ge 34, 3) := by decide +kernel
theorem dX4_ofAll_14 : decode cX4_ofAll 14 = .ok (.iload_n 2, 1) := by decide +kernel
theorem dX4_ofAll_15 : decode cX4_ofAll 15 = .ok (.iload_n 1, 1) := by decide +kernel
theorem dX4_ofAll_16 : decode cX4_ofAll 16 = .ok (.ifCond .ge 11, 3) := by decide +kernel
theorem dX4_ofAll_19 : decode cX4_ofAll 19 = .ok (.aload_n 0, 1) := by decide +kernel
theorem dX4_ofAll_20 : decode cX4_ofAll 20 = .ok (.iload_n 3, 1) := by decide +kernel
theorem dX4_ofAll_21 : decode cX4_ofAll 21 = .ok (.invokevirtual 143, 3) := by decide +kernel
theorem dX4_ofAll_24 : decode cX4_ofAll 24 = .ok (.goto 13, 3) := by decide +kernel
theorem dX4_ofAll_27 : decode cX4_ofAll 27 = .ok (.aload_n 0, 1) := by decide +kernel
theorem dX4_ofAll_28 : decode cX4_ofAll 28 = .ok (.getfield 9, 3) := by decide +kernel
theorem dX4_ofAll_31 : decode cX4_ofAll 31 = .ok (.iload_n 3, 1) := by decide +kernel
theorem dX4_ofAll_32 : decode cX4_ofAll 32 = .ok (.iload_n 1, 1) := by decide +kernel
theorem dX4_ofAll_33 : decode cX4_ofAll 33 = .ok (.invokestatic 73, 3) := by decide +kernel
theorem dX4_ofAll_36 : decode cX4_ofAll 36 = .ok (.iaload, 1) := by decide +kernel
theorem dX4_ofAll_37 : decode cX4_ofAll 37 = .ok (.iadd, 1) := by decide +kernel
theorem dX4_ofAll_38 : decode cX4_ofAll 38 = .ok (.istore_n 2, 1) := by decide +kernel
theorem dX4_ofAll_39 : decode cX4_ofAll 39 = .ok (.iinc 3 1, 3) := by decide +kernel
theorem dX4_ofAll_42 : decode cX4_ofAll 42 = .ok (.goto (-38), 3) := by decide +kernel
theorem dX4_ofAll_45 : decode cX4_ofAll 45 = .ok (.iload_n 2, 1) := by decide +kernel
theorem dX4_ofAll_46 : decode cX4_ofAll 46 = .ok (.ireturn, 1) := by decide +kernel
theorem dX4_account_0 : decode cX4_account 0 = .ok (.aload_n 0, 1) := by decide +kernel
theorem dX4_account_1 : decode cX4_account 1 = .ok (.iload_n 1, 1) := by decide +kernel
theorem dX4_account_2 : decode cX4_account 2 = .ok (.iconst 0, 1) := by decide +kernel
theorem dX4_account_3 : decode cX4_account 3 = .ok (.bipush 8, 2) := by decide +kernel
theorem dX4_account_5 : decode cX4_account 5 = .ok (.invokestatic 61, 3) := by decide +kernel
theorem dX4_account_8 : decode cX4_account 8 = .ok (.ifCond .eq 7, 3) := by decide +kernel
theorem dX4_account_11 : decode cX4_account 11 = .ok (.iconst 0, 1) := by decide +kernel
theorem dX4_account_12 : decode cX4_account 12 = .ok (.goto 4, 3) := by decide +kernel
theorem dX4_account_15 : decode cX4_account 15 = .ok (.iconst 1, 1) := by decide +kernel
theorem dX4_account_16 : decode cX4_account 16 = .ok (.putfield 39, 3) := by decide +kernel
theorem dX4_account_19 : decode cX4_account 19 = .ok (.aload_n 0, 1) := by decide +kernel
theorem dX4_account_20 : decode cX4_account 20 = .ok (.getfield 39, 3) := by decide +kernel
theorem dX4_account_23 : decode cX4_account 23 = .ok (.ifCond .le 5, 3) := by decide +kernel
theorem dX4_account_26 : decode cX4_account 26 = .ok (.iconst 0, 1) := by decide +kernel
theorem dX4_account_27 : decode cX4_account 27 = .ok (.ireturn, 1) := by decide +kernel
theorem dX4_account_28 : decode cX4_account 28 = .ok (.iload_n 1, 1) := by decide +kernel
theorem dX4_account_29 : decode cX4_account 29 = .ok (.tableswitch 101 0 7 #[47, 54, 61, 66, 78, 84, 90, 96], 47) := by decide +kernel
theorem dX4_account_76 : decode cX4_account 76 = .ok (.aload_n 0, 1) := by decide +kernel
theorem dX4_account_77 : decode cX4_account 77 = .ok (.getfield 9, 3) := by decide +kernel
theorem dX4_account_80 : decode cX4_account 80 = .ok (.iconst 0, 1) := by decide +kernel
theorem dX4_account_81 : decode cX4_account 81 = .ok (.iaload, 1) := by decide +kernel
theorem dX4_account_82 : decode cX4_account 82 = .ok (.ireturn, 1) := by decide +kernel
theorem dX4_account_83 : decode cX4_account 83 = .ok (.aload_n 0, 1) := by decide +kernel
theorem dX4_account_84 : decode cX4_account 84 = .ok (.getfield 9, 3) := by decide +kernel
theorem dX4_account_87 : decode cX4_account 87 = .ok (.iconst 1, 1) := by decide +kernel
theorem dX4_account_88 : decode cX4_account 88 = .ok (.iaload, 1) := by decide +kernel
theorem dX4_account_89 : decode cX4_account 89 = .ok (.ireturn, 1) := by decide +kernel
theorem dX4_account_90 : decode cX4_account 90 = .ok (.aload_n 0, 1) := by decide +kernel
theorem dX4_account_91 : decode cX4_account 91 = .ok (.invokevirtual 239, 3) := by decide +kernel
theorem dX4_account_94 : decode cX4_account 94 = .ok (.ireturn, 1) := by decide +kernel
theorem dX4_account_95 : decode cX4_account 95 = .ok (.aload_n 0, 1) := by decide +kernel
theorem dX4_account_96 : decode cX4_account 96 = .ok (.getfield 9, 3) := by decide +kernel
theorem dX4_account_99 : decode cX4_account 99 = .ok (.iconst 1, 1) := by decide +kernel
theorem dX4_account_100 : decode cX4_account 100 = .ok (.iaload, 1) := by decide +kernel
theorem dX4_account_101 : decode cX4_account 101 = .ok (.aload_n 0, 1) := by decide +kernel
theorem dX4_account_102 : decode cX4_account 102 = .ok (.invokevirtual 239, 3) := by decide +kernel
theorem dX4_account_105 : decode cX4_account 105 = .ok (.isub, 1) := by decide +kernel
theorem dX4_account_106 : decode cX4_account 106 = .ok (.ireturn, 1) := by decide +kernel
theorem dX4_account_107 : decode cX4_account 107 = .ok (.aload_n 0, 1) := by decide +kernel
theorem dX4_account_108 : decode cX4_account 108 = .ok (.iconst 2, 1) := by decide +kernel
theorem dX4_account_109 : decode cX4_account 109 = .ok (.invokevirtual 242, 3) := by decide +kernel
theorem dX4_account_112 : decode cX4_account 112 = .ok (.ireturn, 1) := by decide +kernel
theorem dX4_account_113 : decode cX4_account 113 = .ok (.aload_n 0, 1) := by decide +kernel
theorem dX4_account_114 : decode cX4_account 114 = .ok (.iconst 3, 1) := by decide +kernel
theorem dX4_account_115 : decode cX4_account 115 = .ok (.invokevirtual 242, 3) := by decide +kernel
theorem dX4_account_118 : decode cX4_account 118 = .ok (.ireturn, 1) := by decide +kernel
theorem dX4_account_119 : decode cX4_account 119 = .ok (.aload_n 0, 1) := by decide +kernel
theorem dX4_account_120 : decode cX4_account 120 = .ok (.iconst (-1), 1) := by decide +kernel
theorem dX4_account_121 : decode cX4_account 121 = .ok (.invokevirtual 242, 3) := by decide +kernel
theorem dX4_account_124 : decode cX4_account 124 = .ok (.ireturn, 1) := by decide +kernel
theorem dX4_account_125 : decode cX4_account 125 = .ok (.aload_n 0, 1) := by decide +kernel
theorem dX4_account_126 : decode cX4_account 126 = .ok (.getfield 207, 3) := by decide +kernel
theorem dX4_account_129 : decode cX4_account 129 = .ok (.ireturn, 1) := by decide +kernel
theorem dX4_account_130 : decode cX4_account 130 = .ok (.aload_n 0, 1) := by decide +kernel
theorem dX4_account_131 : decode cX4_account 131 = .ok (.getfield 48, 3) := by decide +kernel
theorem dX4_account_134 : decode cX4_account 134 = .ok (.ireturn, 1) := by decide +kernel
theorem dX4_isWell_0 : decode cX4_isWell 0 = .ok (.aload_n 0, 1) := by decide +kernel
theorem dX4_isWell_1 : decode cX4_isWell 1 = .ok (.iconst 0, 1) := by decide +kernel
theorem dX4_isWell_2 : decode cX4_isWell 2 = .ok (.putfield 39, 3) := by decide +kernel
theorem dX4_isWell_5 : decode cX4_isWell 5 = .ok (.iconst 1, 1) := by decide +kernel
theorem dX4_isWell_6 : decode cX4_isWell 6 = .ok (.ireturn, 1) := by decide +kernel
theorem dX4_meanBadges_0 : decode cX4_meanBadges 0 = .ok (.aload_n 0, 1) := by decide +kernel
theorem dX4_meanBadges_1 : decode cX4_meanBadges 1 = .ok (.getfield 9, 3) := by decide +kernel
theorem dX4_meanBadges_4 : decode cX4_meanBadges 4 = .ok (.iconst 1, 1) := by decide +kernel
theorem dX4_meanBadges_5 : decode cX4_meanBadges 5 = .ok (.iaload, 1) := by decide +kernel
theorem dX4_meanBadges_6 : decode cX4_meanBadges 6 = .ok (.istore_n 1, 1) := by decide +kernel
theorem dX4_meanBadges_7 : decode cX4_meanBadges 7 = .ok (.aload_n 0, 1) := by decide +kernel
theorem dX4_meanBadges_8 : decode cX4_meanBadges 8 = .ok (.iload_n 1, 1) := by decide +kernel
theorem dX4_meanBadges_9 : decode cX4_meanBadges 9 = .ok (.ifCond .ne 7, 3) := by decide +kernel
theorem dX4_meanBadges_12 : decode cX4_meanBadges 12 = .ok (.iconst 1, 1) := by decide +kernel
theorem dX4_meanBadges_13 : decode cX4_meanBadges 13 = .ok (.goto 4, 3) := by decide +kernel
theorem dX4_meanBadges_16 : decode cX4_meanBadges 16 = .ok (.iconst 0, 1) := by decide +kernel
theorem dX4_meanBadges_17 : decode cX4_meanBadges 17 = .ok (.putfield 39, 3) := by decide +kernel
theorem dX4_meanBadges_20 : decode cX4_meanBadges 20 = .ok (.iconst 0, 1) := by decide +kernel
theorem dX4_meanBadges_21 : decode cX4_meanBadges 21 = .ok (.istore_n 2, 1) := by decide +kernel
theorem dX4_meanBadges_22 : decode cX4_meanBadges 22 = .ok (.iconst 0, 1) := by decide +kernel
theorem dX4_meanBadges_23 : decode cX4_meanBadges 23 = .ok (.istore_n 3, 1) := by decide +kernel
theorem dX4_meanBadges_24 : decode cX4_meanBadges 24 = .ok (.iload_n 3, 1) := by decide +kernel
theorem dX4_meanBadges_25 : decode cX4_meanBadges 25 = .ok (.iload_n 1, 1) := by decide +kernel
theorem dX4_meanBadges_26 : decode cX4_meanBadges 26 = .ok (.if_icmp .ge 20, 3) := by decide +kernel
theorem dX4_meanBadges_29 : decode cX4_meanBadges 29 = .ok (.iload_n 2, 1) := by decide +kernel
theorem dX4_meanBadges_30 : decode cX4_meanBadges 30 = .ok (.aload_n 0, 1) := by decide +kernel
theorem dX4_meanBadges_31 : decode cX4_meanBadges 31 = .ok (.iload_n 3, 1) := by decide +kernel
theorem dX4_meanBadges_32 : decode cX4_meanBadges 32 = .ok (.invokevirtual 97, 3) := by decide +kernel
theorem dX4_meanBadges_35 : decode cX4_meanBadges 35 = .ok (.invokestatic 134, 3) := by decide +kernel
theorem dX4_meanBadges_38 : decode cX4_meanBadges 38 = .ok (.iadd, 1) := by decide +kernel
theorem dX4_meanBadges_39 : decode cX4_meanBadges 39 = .ok (.istore_n 2, 1) := by decide +kernel
theorem dX4_meanBadges_40 : decode cX4_meanBadges 40 = .ok (.iinc 3 1, 3) := by decide +kernel
theorem dX4_meanBadges_43 : decode cX4_meanBadges 43 = .ok (.goto (-19), 3) := by decide +kernel
theorem dX4_meanBadges_46 : decode cX4_meanBadges 46 = .ok (.aload_n 0, 1) := by decide +kernel
theorem dX4_meanBadges_47 : decode cX4_meanBadges 47 = .ok (.getfield 39, 3) := by decide +kernel
theorem dX4_meanBadges_50 : decode cX4_meanBadges 50 = .ok (.ifCond .le 7, 3) := by decide +kernel
theorem dX4_meanBadges_53 : decode cX4_meanBadges 53 = .ok (.dconst 0, 1) := by decide +kernel
theorem dX4_meanBadges_54 : decode cX4_meanBadges 54 = .ok (.goto 8, 3) := by decide +kernel
theorem dX4_meanBadges_57 : decode cX4_meanBadges 57 = .ok (.iload_n 2, 1) := by decide +kernel
theorem dX4_meanBadges_58 : decode cX4_meanBadges 58 = .ok (.i2d, 1) := by decide +kernel
theorem dX4_meanBadges_59 : decode cX4_meanBadges 59 = .ok (.iload_n 1, 1) := by decide +kernel
theorem dX4_meanBadges_60 : decode cX4_meanBadges 60 = .ok (.i2d, 1) := by decide +kernel
theorem dX4_meanBadges_61 : decode cX4_meanBadges 61 = .ok (.ddiv, 1) := by decide +kernel
theorem dX4_meanBadges_62 : decode cX4_meanBadges 62 = .ok (.dreturn, 1) := by decide +kernel
theorem dX4_undo_0 : decode cX4_undo 0 = .ok (.aload_n 0, 1) := by decide +kernel
theorem dX4_undo_1 : decode cX4_undo 1 = .ok (.aload_n 0, 1) := by decide +kernel
theorem dX4_undo_2 : decode cX4_undo 2 = .ok (.getfield 48, 3) := by decide +kernel
theorem dX4_undo_5 : decode cX4_undo 5 = .ok (.ifCond .ne 7, 3) := by decide +kernel
theorem dX4_undo_8 : decode cX4_undo 8 = .ok (.iconst 1, 1) := by decide +kernel
theorem dX4_undo_9 : decode cX4_undo 9 = .ok (.goto 4, 3) := by decide +kernel
theorem dX4_undo_12 : decode cX4_undo 12 = .ok (.iconst 0, 1) := by decide +kernel
theorem dX4_undo_13 : decode cX4_undo 13 = .ok (.putfield 39, 3) := by decide +kernel
theorem dX4_undo_16 : decode cX4_undo 16 = .ok (.aload_n 0, 1) := by decide +kernel
theorem dX4_undo_17 : decode cX4_undo 17 = .ok (.getfield 39, 3) := by decide +kernel
theorem dX4_undo_20 : decode cX4_undo 20 = .ok (.ifCond .le 5, 3) := by decide +kernel
theorem dX4_undo_23 : decode cX4_undo 23 = .ok (.iconst 0, 1) := by decide +kernel
theorem dX4_undo_24 : decode cX4_undo 24 = .ok (.ireturn, 1) := by decide +kernel
theorem dX4_undo_25 : decode cX4_undo 25 = .ok (.aload_n 0, 1) := by decide +kernel
theorem dX4_undo_26 : decode cX4_undo 26 = .ok (.dup, 1) := by decide +kernel
theorem dX4_undo_27 : decode cX4_undo 27 = .ok (.getfield 48, 3) := by decide +kernel
theorem dX4_undo_30 : decode cX4_undo 30 = .ok (.iconst 1, 1) := by decide +kernel
theorem dX4_undo_31 : decode cX4_undo 31 = .ok (.isub, 1) := by decide +kernel
theorem dX4_undo_32 : decode cX4_undo 32 = .ok (.putfield 48, 3) := by decide +kernel
theorem dX4_undo_35 : decode cX4_undo 35 = .ok (.aload_n 0, 1) := by decide +kernel
theorem dX4_undo_36 : decode cX4_undo 36 = .ok (.getfield 19, 3) := by decide +kernel
theorem dX4_undo_39 : decode cX4_undo 39 = .ok (.sipush 134, 3) := by decide +kernel
theorem dX4_undo_42 : decode cX4_undo 42 = .ok (.aload_n 0, 1) := by decide +kernel
theorem dX4_undo_43 : decode cX4_undo 43 = .ok (.getfield 48, 3) := by decide +kernel
theorem dX4_undo_46 : decode cX4_undo 46 = .ok (.imul, 1) := by decide +kernel
theorem dX4_undo_47 : decode cX4_undo 47 = .ok (.aload_n 0, 1) := by decide +kernel
theorem dX4_undo_48 : decode cX4_undo 48 = .ok (.getfield 9, 3) := by decide +kernel
theorem dX4_undo_51 : decode cX4_undo 51 = .ok (.iconst 0, 1) := by decide +kernel
theorem dX4_undo_52 : decode cX4_undo 52 = .ok (.sipush 134, 3) := by decide +kernel
theorem dX4_undo_55 : decode cX4_undo 55 = .ok (.invokestatic 42, 3) := by decide +kernel
theorem dX4_undo_58 : decode cX4_undo 58 = .ok (.aload_n 0, 1) := by decide +kernel
theorem dX4_undo_59 : decode cX4_undo 59 = .ok (.getfield 48, 3) := by decide +kernel
theorem dX4_undo_62 : decode cX4_undo 62 = .ok (.ireturn, 1) := by decide +kernel
theorem dX4_save_0 : decode cX4_save 0 = .ok (.aload_n 0, 1) := by decide +kernel
theorem dX4_save_1 : decode cX4_save 1 = .ok (.iconst 0, 1) := by decide +kernel
theorem dX4_save_2 : decode cX4_save 2 = .ok (.putfield 39, 3) := by decide +kernel
theorem dX4_save_5 : decode cX4_save 5 = .ok (.aload_n 0, 1) := by decide +kernel
theorem dX4_save_6 : decode cX4_save 6 = .ok (.getfield 9, 3) := by decide +kernel
theorem dX4_save_9 : decode cX4_save 9 = .ok (.iconst 0, 1) := by decide +kernel
theorem dX4_save_10 : decode cX4_save 10 = .ok (.aload_n 0, 1) := by decide +kernel
theorem dX4_save_11 : decode cX4_save 11 = .ok (.getfield 16, 3) := by decide +kernel
theorem dX4_save_14 : decode cX4_save 14 = .ok (.iconst 0, 1) := by decide +kernel
theorem dX4_save_15 : decode cX4_save 15 = .ok (.sipush 134, 3) := by decide +kernel
theorem dX4_save_18 : decode cX4_save 18 = .ok (.invokestatic 42, 3) := by decide +kernel
theorem dX4_save_21 : decode cX4_save 21 = .ok (.aload_n 0, 1) := by decide +kernel
theorem dX4_save_22 : decode cX4_save 22 = .ok (.iconst 1, 1) := by decide +kernel
theorem dX4_save_23 : decode cX4_save 23 = .ok (.putfield 245, 3) := by decide +kernel
theorem dX4_save_26 : decode cX4_save 26 = .ok (.aload_n 0, 1) := by decide +kernel
theorem dX4_save_27 : decode cX4_save 27 = .ok (.getfield 9, 3) := by decide +kernel
theorem dX4_save_30 : decode cX4_save 30 = .ok (.iconst 1, 1) := by decide +kernel
theorem dX4_save_31 : decode cX4_save 31 = .ok (.iaload, 1) := by decide +kernel
theorem dX4_save_32 : decode cX4_save 32 = .ok (.ireturn, 1) := by decide +kernel
theorem dX4_restore_0 : decode cX4_restore 0 = .ok (.aload_n 0, 1) := by decide +kernel
theorem dX4_restore_1 : decode cX4_restore 1 = .ok (.aload_n 0, 1) := by decide +kernel
theorem dX4_restore_2 : decode cX4_restore 2 = .ok (.getfield 245, 3) := by decide +kernel
theorem dX4_restore_5 : decode cX4_restore 5 = .ok (.ifCond .eq 7, 3) := by decide +kernel
theorem dX4_restore_8 : decode cX4_restore 8 = .ok (.iconst 0, 1) := by decide +kernel
theorem dX4_restore_9 : decode cX4_restore 9 = .ok (.goto 4, 3) := by decide +kernel
theorem dX4_restore_12 : decode cX4_restore 12 = .ok (.iconst 1, 1) := by decide +kernel
theorem dX4_restore_13 : decode cX4_restore 13 = .ok (.putfield 39, 3) := by decide +kernel
theorem dX4_restore_16 : decode cX4_restore 16 = .ok (.aload_n 0, 1) := by decide +kernel
theorem dX4_restore_17 : decode cX4_restore 17 = .ok (.getfield 39, 3) := by decide +kernel
theorem dX4_restore_20 : decode cX4_restore 20 = .ok (.ifCond .le 5, 3) := by decide +kernel
theorem dX4_restore_23 : decode cX4_restore 23 = .ok (.iconst 0, 1) := by decide +kernel
theorem dX4_restore_24 : decode cX4_restore 24 = .ok (.ireturn, 1) := by decide +kernel
theorem dX4_restore_25 : decode cX4_restore 25 = .ok (.aload_n 0, 1) := by decide +kernel
theorem dX4_restore_26 : decode cX4_restore 26 = .ok (.getfield 16, 3) := by decide +kernel
theorem dX4_restore_29 : decode cX4_restore 29 = .ok (.iconst 0, 1) := by decide +kernel
theorem dX4_restore_30 : decode cX4_restore 30 = .ok (.aload_n 0, 1) := by decide +kernel
theorem dX4_restore_31 : decode cX4_restore 31 = .ok (.getfield 9, 3) := by decide +kernel
theorem dX4_restore_34 : decode cX4_restore 34 = .ok (.iconst 0, 1) := by decide +kernel
theorem dX4_restore_35 : decode cX4_restore 35 = .ok (.sipush 134, 3) := by decide +kernel
theorem dX4_restore_38 : decode cX4_restore 38 = .ok (.invokestatic 42, 3) := by decide +kernel
theorem dX4_restore_41 : decode cX4_restore 41 = .ok (.aload_n 0, 1) := by decide +kernel
theorem dX4_restore_42 : decode cX4_restore 42 = .ok (.iconst 0, 1) := by decide +kernel
theorem dX4_restore_43 : decode cX4_restore 43 = .ok (.putfield 48, 3) := by decide +kernel
theorem dX4_restore_46 : decode cX4_restore 46 = .ok (.aload_n 0, 1) := by decide +kernel
theorem dX4_restore_47 : decode cX4_restore 47 = .ok (.getfield 9, 3) := by decide +kernel
theorem dX4_restore_50 : decode cX4_restore 50 = .ok (.iconst 1, 1) := by decide +kernel
theorem dX4_restore_51 : decode cX4_restore 51 = .ok (.iaload, 1) := by decide +kernel
theorem dX4_restore_52 : decode cX4_restore 52 = .ok (.ireturn, 1) := by decide +kernel
theorem dL_guard_0 : decode cL_guard 0 = .ok (.aload_n 2, 1) := by decide +kernel
theorem dL_guard_1 : decode cL_guard 1 = .ok (.iconst 0, 1) := by decide +kernel
theorem dL_guard_2 : decode cL_guard 2 = .ok (.aload_n 0, 1) := by decide +kernel
theorem dL_guard_3 : decode cL_guard 3 = .ok (.iload_n 1, 1) := by decide +kernel
theorem dL_guard_4 : decode cL_guard 4 = .ok (.invokevirtual 7, 3) := by decide +kernel
theorem dL_guard_7 : decode cL_guard 7 = .ok (.i2l, 1) := by decide +kernel
theorem dL_guard_8 : decode cL_guard 8 = .ok (.lastore, 1) := by decide +kernel
theorem dL_guard_9 : decode cL_guard 9 = .ok (.goto 9, 3) := by decide +kernel
theorem dL_guard_12 : decode cL_guard 12 = .ok (.astore_n 3, 1) := by decide +kernel
theorem dL_guard_13 : decode cL_guard 13 = .ok (.iconst 1, 1) := by decide +kernel
theorem dL_guard_14 : decode cL_guard 14 = .ok (.ireturn, 1) := by decide +kernel
theorem dL_guard_15 : decode cL_guard 15 = .ok (.astore_n 3, 1) := by decide +kernel
theorem dL_guard_16 : decode cL_guard 16 = .ok (.iconst 2, 1) := by decide +kernel
theorem dL_guard_17 : decode cL_guard 17 = .ok (.ireturn, 1) := by decide +kernel
theorem dL_guard_18 : decode cL_guard 18 = .ok (.iconst 0, 1) := by decide +kernel
theorem dL_guard_19 : decode cL_guard 19 = .ok (.ireturn, 1) := by decide +kernel
theorem dL_rate_0 : decode cL_rate 0 = .ok (.aload_n 3, 1) := by decide +kernel
theorem dL_rate_1 : decode cL_rate 1 = .ok (.iconst 0, 1) := by decide +kernel
theorem dL_rate_2 : decode cL_rate 2 = .ok (.aload_n 0, 1) := by decide +kernel
theorem dL_rate_3 : decode cL_rate 3 = .ok (.iload_n 1, 1) := by decide +kernel
theorem dL_rate_4 : decode cL_rate 4 = .ok (.iload_n 2, 1) := by decide +kernel
theorem dL_rate_5 : decode cL_rate 5 = .ok (.invokevirtual 17, 3) := by decide +kernel
theorem dL_rate_8 : decode cL_rate 8 = .ok (.i2l, 1) := by decide +kernel
theorem dL_rate_9 : decode cL_rate 9 = .ok (.lastore, 1) := by decide +kernel
theorem dL_rate_10 : decode cL_rate 10 = .ok (.goto 15, 3) := by decide +kernel
theorem dL_rate_13 : decode cL_rate 13 = .ok (.astore 4, 2) := by decide +kernel
theorem dL_rate_15 : decode cL_rate 15 = .ok (.iconst 1, 1) := by decide +kernel
theorem dL_rate_16 : decode cL_rate 16 = .ok (.ireturn, 1) := by decide +kernel
theorem dL_rate_17 : decode cL_rate 17 = .ok (.astore 4, 2) := by decide +kernel
theorem dL_rate_19 : decode cL_rate 19 = .ok (.iconst 2, 1) := by decide +kernel
theorem dL_rate_20 : decode cL_rate 20 = .ok (.ireturn, 1) := by decide +kernel
theorem dL_rate_21 : decode cL_rate 21 = .ok (.astore 4, 2) := by decide +kernel
theorem dL_rate_23 : decode cL_rate 23 = .ok (.iconst 3, 1) := by decide +kernel
theorem dL_rate_24 : decode cL_rate 24 = .ok (.ireturn, 1) := by decide +kernel
theorem dL_rate_25 : decode cL_rate 25 = .ok (.iconst 0, 1) := by decide +kernel
theorem dL_rate_26 : decode cL_rate 26 = .ok (.ireturn, 1) := by decide +kernel
theorem dL_caution_0 : decode cL_caution 0 = .ok (.aload_n 3, 1) := by decide +kernel
theorem dL_caution_1 : decode cL_caution 1 = .ok (.iconst 0, 1) := by decide +kernel
theorem dL_caution_2 : decode cL_caution 2 = .ok (.aload_n 0, 1) := by decide +kernel
theorem dL_caution_3 : decode cL_caution 3 = .ok (.iload_n 1, 1) := by decide +kernel
theorem dL_caution_4 : decode cL_caution 4 = .ok (.iload_n 2, 1) := by decide +kernel
theorem dL_caution_5 : decode cL_caution 5 = .ok (.invokevirtual 23, 3) := by decide +kernel
theorem dL_caution_8 : decode cL_caution 8 = .ok (.i2l, 1) := by decide +kernel
theorem dL_caution_9 : decode cL_caution 9 = .ok (.lastore, 1) := by decide +kernel
theorem dL_caution_10 : decode cL_caution 10 = .ok (.goto 15, 3) := by decide +kernel
theorem dL_caution_13 : decode cL_caution 13 = .ok (.astore 4, 2) := by decide +kernel
theorem dL_caution_15 : decode cL_caution 15 = .ok (.iconst 1, 1) := by decide +kernel
theorem dL_caution_16 : decode cL_caution 16 = .ok (.ireturn, 1) := by decide +kernel
theorem dL_caution_17 : decode cL_caution 17 = .ok (.astore 4, 2) := by decide +kernel
theorem dL_caution_19 : decode cL_caution 19 = .ok (.iconst 2, 1) := by decide +kernel
theorem dL_caution_20 : decode cL_caution 20 = .ok (.ireturn, 1) := by decide +kernel
theorem dL_caution_21 : decode cL_caution 21 = .ok (.astore 4, 2) := by decide +kernel
theorem dL_caution_23 : decode cL_caution 23 = .ok (.iconst 3, 1) := by decide +kernel
theorem dL_caution_24 : decode cL_caution 24 = .ok (.ireturn, 1) := by decide +kernel
theorem dL_caution_25 : decode cL_caution 25 = .ok (.iconst 0, 1) := by decide +kernel
theorem dL_caution_26 : decode cL_caution 26 = .ok (.ireturn, 1) := by decide +kernel
theorem dL_visitor_0 : decode cL_visitor 0 = .ok (.aload_n 3, 1) := by decide +kernel
theorem dL_visitor_1 : decode cL_visitor 1 = .ok (.iconst 0, 1) := by decide +kernel
theorem dL_visitor_2 : decode cL_visitor 2 = .ok (.aload_n 0, 1) := by decide +kernel
theorem dL_visitor_3 : decode cL_visitor 3 = .ok (.iload_n 1, 1) := by decide +kernel
theorem dL_visitor_4 : decode cL_visitor 4 = .ok (.iload_n 2, 1) := by decide +kernel
theorem dL_visitor_5 : decode cL_visitor 5 = .ok (.invokevirtual 26, 3) := by decide +kernel
theorem dL_visitor_8 : decode cL_visitor 8 = .ok (.i2l, 1) := by decide +kernel
theorem dL_visitor_9 : decode cL_visitor 9 = .ok (.lastore, 1) := by decide +kernel
theorem dL_visitor_10 : decode cL_visitor 10 = .ok (.goto 11, 3) := by decide +kernel
theorem dL_visitor_13 : decode cL_visitor 13 = .ok (.astore 4, 2) := by decide +kernel
theorem dL_visitor_15 : decode cL_visitor 15 = .ok (.iconst 1, 1) := by decide +kernel
theorem dL_visitor_16 : decode cL_visitor 16 = .ok (.ireturn, 1) := by decide +kernel
theorem dL_visitor_17 : decode cL_visitor 17 = .ok (.astore 4, 2) := by decide +kernel
theorem dL_visitor_19 : decode cL_visitor 19 = .ok (.iconst 2, 1) := by decide +kernel
theorem dL_visitor_20 : decode cL_visitor 20 = .ok (.ireturn, 1) := by decide +kernel
theorem dL_visitor_21 : decode cL_visitor 21 = .ok (.iconst 0, 1) := by decide +kernel
theorem dL_visitor_22 : decode cL_visitor 22 = .ok (.ireturn, 1) := by decide +kernel
theorem dL_forget_0 : decode cL_forget 0 = .ok (.aload_n 2, 1) := by decide +kernel
theorem dL_forget_1 : decode cL_forget 1 = .ok (.iconst 0, 1) := by decide +kernel
theorem dL_forget_2 : decode cL_forget 2 = .ok (.aload_n 0, 1) := by decide +kernel
theorem dL_forget_3 : decode cL_forget 3 = .ok (.iload_n 1, 1) := by decide +kernel
theorem dL_forget_4 : decode cL_forget 4 = .ok (.invokevirtual 30, 3) := by decide +kernel
theorem dL_forget_7 : decode cL_forget 7 = .ok (.i2l, 1) := by decide +kernel
theorem dL_forget_8 : decode cL_forget 8 = .ok (.lastore, 1) := by decide +kernel
theorem dL_forget_9 : decode cL_forget 9 = .ok (.goto 6, 3) := by decide +kernel
theorem dL_forget_12 : decode cL_forget 12 = .ok (.astore_n 3, 1) := by decide +kernel
theorem dL_forget_13 : decode cL_forget 13 = .ok (.iconst 1, 1) := by decide +kernel
theorem dL_forget_14 : decode cL_forget 14 = .ok (.ireturn, 1) := by decide +kernel
theorem dL_forget_15 : decode cL_forget 15 = .ok (.iconst 0, 1) := by decide +kernel
theorem dL_forget_16 : decode cL_forget 16 = .ok (.ireturn, 1) := by decide +kernel
theorem dL_visitorOf_0 : decode cL_visitorOf 0 = .ok (.aload_n 3, 1) := by decide +kernel
theorem dL_visitorOf_1 : decode cL_visitorOf 1 = .ok (.iconst 0, 1) := by decide +kernel
theorem dL_visitorOf_2 : decode cL_visitorOf 2 = .ok (.aload_n 0, 1) := by decide +kernel
theorem dL_visitorOf_3 : decode cL_visitorOf 3 = .ok (.iload_n 1, 1) := by decide +kernel
theorem dL_visitorOf_4 : decode cL_visitorOf 4 = .ok (.iload_n 2, 1) := by decide +kernel
theorem dL_visitorOf_5 : decode cL_visitorOf 5 = .ok (.invokevirtual 33, 3) := by decide +kernel
theorem dL_visitorOf_8 : decode cL_visitorOf 8 = .ok (.i2l, 1) := by decide +kernel
theorem dL_visitorOf_9 : decode cL_visitorOf 9 = .ok (.lastore, 1) := by decide +kernel
theorem dL_visitorOf_10 : decode cL_visitorOf 10 = .ok (.goto 11, 3) := by decide +kernel
theorem dL_visitorOf_13 : decode cL_visitorOf 13 = .ok (.astore 4, 2) := by decide +kernel
theorem dL_visitorOf_15 : decode cL_visitorOf 15 = .ok (.iconst 1, 1) := by decide +kernel
theorem dL_visitorOf_16 : decode cL_visitorOf 16 = .ok (.ireturn, 1) := by decide +kernel
theorem dL_visitorOf_17 : decode cL_visitorOf 17 = .ok (.astore 4, 2) := by decide +kernel
theorem dL_visitorOf_19 : decode cL_visitorOf 19 = .ok (.iconst 2, 1) := by decide +kernel
theorem dL_visitorOf_20 : decode cL_visitorOf 20 = .ok (.ireturn, 1) := by decide +kernel
theorem dL_visitorOf_21 : decode cL_visitorOf 21 = .ok (.iconst 0, 1) := by decide +kernel
theorem dL_visitorOf_22 : decode cL_visitorOf 22 = .ok (.ireturn, 1) := by decide +kernel
theorem dL_guardOf_0 : decode cL_guardOf 0 = .ok (.aload_n 3, 1) := by decide +kernel
theorem dL_guardOf_1 : decode cL_guardOf 1 = .ok (.iconst 0, 1) := by decide +kernel
theorem dL_guardOf_2 : decode cL_guardOf 2 = .ok (.aload_n 0, 1) := by decide +kernel
theorem dL_guardOf_3 : decode cL_guardOf 3 = .ok (.iload_n 1, 1) := by decide +kernel
theorem dL_guardOf_4 : decode cL_guardOf 4 = .ok (.iload_n 2, 1) := by decide +kernel
theorem dL_guardOf_5 : decode cL_guardOf 5 = .ok (.invokevirtual 36, 3) := by decide +kernel
theorem dL_guardOf_8 : decode cL_guardOf 8 = .ok (.i2l, 1) := by decide +kernel
theorem dL_guardOf_9 : decode cL_guardOf 9 = .ok (.lastore, 1) := by decide +kernel
theorem dL_guardOf_10 : decode cL_guardOf 10 = .ok (.goto 11, 3) := by decide +kernel
theorem dL_guardOf_13 : decode cL_guardOf 13 = .ok (.astore 4, 2) := by decide +kernel
theorem dL_guardOf_15 : decode cL_guardOf 15 = .ok (.iconst 1, 1) := by decide +kernel
theorem dL_guardOf_16 : decode cL_guardOf 16 = .ok (.ireturn, 1) := by decide +kernel
theorem dL_guardOf_17 : decode cL_guardOf 17 = .ok (.astore 4, 2) := by decide +kernel
theorem dL_guardOf_19 : decode cL_guardOf 19 = .ok (.iconst 2, 1) := by decide +kernel
theorem dL_guardOf_20 : decode cL_guardOf 20 = .ok (.ireturn, 1) := by decide +kernel
theorem dL_guardOf_21 : decode cL_guardOf 21 = .ok (.iconst 0, 1) := by decide +kernel
theorem dL_guardOf_22 : decode cL_guardOf 22 = .ok (.ireturn, 1) := by decide +kernel
theorem dL_margin_0 : decode cL_margin 0 = .ok (.aload 4, 2) := by decide +kernel
theorem dL_margin_2 : decode cL_margin 2 = .ok (.iconst 0, 1) := by decide +kernel
theorem dL_margin_3 : decode cL_margin 3 = .ok (.aload_n 0, 1) := by decide +kernel
theorem dL_margin_4 : decode cL_margin 4 = .ok (.iload_n 1, 1) := by decide +kernel
theorem dL_margin_5 : decode cL_margin 5 = .ok (.iload_n 2, 1) := by decide +kernel
theorem dL_margin_6 : decode cL_margin 6 = .ok (.iload_n 3, 1) := by decide +kernel
theorem dL_margin_7 : decode cL_margin 7 = .ok (.invokevirtual 39, 3) := by decide +kernel
theorem dL_margin_10 : decode cL_margin 10 = .ok (.f2d, 1) := by decide +kernel
theorem dL_margin_11 : decode cL_margin 11 = .ok (.dastore, 1) := by decide +kernel
theorem dL_margin_12 : decode cL_margin 12 = .ok (.goto 11, 3) := by decide +kernel
theorem dL_margin_15 : decode cL_margin 15 = .ok (.astore 5, 2) := by decide +kernel
theorem dL_margin_17 : decode cL_margin 17 = .ok (.iconst 1, 1) := by decide +kernel
theorem dL_margin_18 : decode cL_margin 18 = .ok (.ireturn, 1) := by decide +kernel
theorem dL_margin_19 : decode cL_margin 19 = .ok (.astore 5, 2) := by decide +kernel
theorem dL_margin_21 : decode cL_margin 21 = .ok (.iconst 2, 1) := by decide +kernel
theorem dL_margin_22 : decode cL_margin 22 = .ok (.ireturn, 1) := by decide +kernel
theorem dL_margin_23 : decode cL_margin 23 = .ok (.iconst 0, 1) := by decide +kernel
theorem dL_margin_24 : decode cL_margin 24 = .ok (.ireturn, 1) := by decide +kernel
theorem dL_letsIn_0 : decode cL_letsIn 0 = .ok (.aload_n 3, 1) := by decide +kernel
theorem dL_letsIn_1 : decode cL_letsIn 1 = .ok (.iconst 0, 1) := by decide +kernel
theorem dL_letsIn_2 : decode cL_letsIn 2 = .ok (.aload_n 0, 1) := by decide +kernel
theorem dL_letsIn_3 : decode cL_letsIn 3 = .ok (.iload_n 1, 1) := by decide +kernel
theorem dL_letsIn_4 : decode cL_letsIn 4 = .ok (.iload_n 2, 1) := by decide +kernel
theorem dL_letsIn_5 : decode cL_letsIn 5 = .ok (.invokevirtual 43, 3) := by decide +kernel
theorem dL_letsIn_8 : decode cL_letsIn 8 = .ok (.ifCond .eq 7, 3) := by decide +kernel
theorem dL_letsIn_11 : decode cL_letsIn 11 = .ok (.lconst 1, 1) := by decide +kernel
theorem dL_letsIn_12 : decode cL_letsIn 12 = .ok (.goto 4, 3) := by decide +kernel
theorem dL_letsIn_15 : decode cL_letsIn 15 = .ok (.lconst 0, 1) := by decide +kernel
theorem dL_letsIn_16 : decode cL_letsIn 16 = .ok (.lastore, 1) := by decide +kernel
theorem dL_letsIn_17 : decode cL_letsIn 17 = .ok (.goto 11, 3) := by decide +kernel
theorem dL_letsIn_20 : decode cL_letsIn 20 = .ok (.astore 4, 2) := by decide +kernel
theorem dL_letsIn_22 : decode cL_letsIn 22 = .ok (.iconst 1, 1) := by decide +kernel
theorem dL_letsIn_23 : decode cL_letsIn 23 = .ok (.ireturn, 1) := by decide +kernel
theorem dL_letsIn_24 : decode cL_letsIn 24 = .ok (.astore 4, 2) := by decide +kernel
theorem dL_letsIn_26 : decode cL_letsIn 26 = .ok (.iconst 2, 1) := by decide +kernel
theorem dL_letsIn_27 : decode cL_letsIn 27 = .ok (.ireturn, 1) := by decide +kernel
theorem dL_letsIn_28 : decode cL_letsIn 28 = .ok (.iconst 0, 1) := by decide +kernel
theorem dL_letsIn_29 : decode cL_letsIn 29 = .ok (.ireturn, 1) := by decide +kernel
theorem dL_weightBits_0 : decode cL_weightBits 0 = .ok (.aload_n 3, 1) := by decide +kernel
theorem dL_weightBits_1 : decode cL_weightBits 1 = .ok (.iconst 0, 1) := by decide +kernel
theorem dL_weightBits_2 : decode cL_weightBits 2 = .ok (.aload_n 0, 1) := by decide +kernel
theorem dL_weightBits_3 : decode cL_weightBits 3 = .ok (.iload_n 1, 1) := by decide +kernel
theorem dL_weightBits_4 : decode cL_weightBits 4 = .ok (.iload_n 2, 1) := by decide +kernel
theorem dL_weightBits_5 : decode cL_weightBits 5 = .ok (.invokevirtual 47, 3) := by decide +kernel
theorem dL_weightBits_8 : decode cL_weightBits 8 = .ok (.i2l, 1) := by decide +kernel
theorem dL_weightBits_9 : decode cL_weightBits 9 = .ok (.lastore, 1) := by decide +kernel
theorem dL_weightBits_10 : decode cL_weightBits 10 = .ok (.goto 11, 3) := by decide +kernel
theorem dL_weightBits_13 : decode cL_weightBits 13 = .ok (.astore 4, 2) := by decide +kernel
theorem dL_weightBits_15 : decode cL_weightBits 15 = .ok (.iconst 1, 1) := by decide +kernel
theorem dL_weightBits_16 : decode cL_weightBits 16 = .ok (.ireturn, 1) := by decide +kernel
theorem dL_weightBits_17 : decode cL_weightBits 17 = .ok (.astore 4, 2) := by decide +kernel
theorem dL_weightBits_19 : decode cL_weightBits 19 = .ok (.iconst 2, 1) := by decide +kernel
theorem dL_weightBits_20 : decode cL_weightBits 20 = .ok (.ireturn, 1) := by decide +kernel
theorem dL_weightBits_21 : decode cL_weightBits 21 = .ok (.iconst 0, 1) := by decide +kernel
theorem dL_weightBits_22 : decode cL_weightBits 22 = .ok (.ireturn, 1) := by decide +kernel
theorem dL_counted_0 : decode cL_counted 0 = .ok (.aload_n 3, 1) := by decide +kernel
theorem dL_counted_1 : decode cL_counted 1 = .ok (.iconst 0, 1) := by decide +kernel
theorem dL_counted_2 : decode cL_counted 2 = .ok (.aload_n 0, 1) := by decide +kernel
theorem dL_counted_3 : decode cL_counted 3 = .ok (.iload_n 1, 1) := by decide +kernel
theorem dL_counted_4 : decode cL_counted 4 = .ok (.iload_n 2, 1) := by decide +kernel
theorem dL_counted_5 : decode cL_counted 5 = .ok (.invokevirtual 50, 3) := by decide +kernel
theorem dL_counted_8 : decode cL_counted 8 = .ok (.i2l, 1) := by decide +kernel
theorem dL_counted_9 : decode cL_counted 9 = .ok (.lastore, 1) := by decide +kernel
theorem dL_counted_10 : decode cL_counted 10 = .ok (.goto 11, 3) := by decide +kernel
theorem dL_counted_13 : decode cL_counted 13 = .ok (.astore 4, 2) := by decide +kernel
theorem dL_counted_15 : decode cL_counted 15 = .ok (.iconst 1, 1) := by decide +kernel
theorem dL_counted_16 : decode cL_counted 16 = .ok (.ireturn, 1) := by decide +kernel
theorem dL_counted_17 : decode cL_counted 17 = .ok (.astore 4, 2) := by decide +kernel
theorem dL_counted_19 : decode cL_counted 19 = .ok (.iconst 2, 1) := by decide +kernel
theorem dL_counted_20 : decode cL_counted 20 = .ok (.ireturn, 1) := by decide +kernel
theorem dL_counted_21 : decode cL_counted 21 = .ok (.iconst 0, 1) := by decide +kernel
theorem dL_counted_22 : decode cL_counted 22 = .ok (.ireturn, 1) := by decide +kernel
theorem dL_mean_0 : decode cL_mean 0 = .ok (.aload_n 3, 1) := by decide +kernel
theorem dL_mean_1 : decode cL_mean 1 = .ok (.iconst 0, 1) := by decide +kernel
theorem dL_mean_2 : decode cL_mean 2 = .ok (.aload_n 0, 1) := by decide +kernel
theorem dL_mean_3 : decode cL_mean 3 = .ok (.iload_n 1, 1) := by decide +kernel
theorem dL_mean_4 : decode cL_mean 4 = .ok (.iload_n 2, 1) := by decide +kernel
theorem dL_mean_5 : decode cL_mean 5 = .ok (.invokevirtual 53, 3) := by decide +kernel
theorem dL_mean_8 : decode cL_mean 8 = .ok (.f2d, 1) := by decide +kernel
theorem dL_mean_9 : decode cL_mean 9 = .ok (.dastore, 1) := by decide +kernel
theorem dL_mean_10 : decode cL_mean 10 = .ok (.goto 15, 3) := by decide +kernel
theorem dL_mean_13 : decode cL_mean 13 = .ok (.astore 4, 2) := by decide +kernel
theorem dL_mean_15 : decode cL_mean 15 = .ok (.iconst 1, 1) := by decide +kernel
theorem dL_mean_16 : decode cL_mean 16 = .ok (.ireturn, 1) := by decide +kernel
theorem dL_mean_17 : decode cL_mean 17 = .ok (.astore 4, 2) := by decide +kernel
theorem dL_mean_19 : decode cL_mean 19 = .ok (.iconst 2, 1) := by decide +kernel
theorem dL_mean_20 : decode cL_mean 20 = .ok (.ireturn, 1) := by decide +kernel
theorem dL_mean_21 : decode cL_mean 21 = .ok (.astore 4, 2) := by decide +kernel
theorem dL_mean_23 : decode cL_mean 23 = .ok (.iconst 3, 1) := by decide +kernel
theorem dL_mean_24 : decode cL_mean 24 = .ok (.ireturn, 1) := by decide +kernel
theorem dL_mean_25 : decode cL_mean 25 = .ok (.iconst 0, 1) := by decide +kernel
theorem dL_mean_26 : decode cL_mean 26 = .ok (.ireturn, 1) := by decide +kernel
theorem dL_strongest_0 : decode cL_strongest 0 = .ok (.aload_n 3, 1) := by decide +kernel
theorem dL_strongest_1 : decode cL_strongest 1 = .ok (.iconst 0, 1) := by decide +kernel
theorem dL_strongest_2 : decode cL_strongest 2 = .ok (.aload_n 0, 1) := by decide +kernel
theorem dL_strongest_3 : decode cL_strongest 3 = .ok (.iload_n 1, 1) := by decide +kernel
theorem dL_strongest_4 : decode cL_strongest 4 = .ok (.iload_n 2, 1) := by decide +kernel
theorem dL_strongest_5 : decode cL_strongest 5 = .ok (.invokevirtual 59, 3) := by decide +kernel
theorem dL_strongest_8 : decode cL_strongest 8 = .ok (.i2l, 1) := by decide +kernel
theorem dL_strongest_9 : decode cL_strongest 9 = .ok (.lastore, 1) := by decide +kernel
theorem dL_strongest_10 : decode cL_strongest 10 = .ok (.goto 11, 3) := by decide +kernel
theorem dL_strongest_13 : decode cL_strongest 13 = .ok (.astore 4, 2) := by decide +kernel
theorem dL_strongest_15 : decode cL_strongest 15 = .ok (.iconst 1, 1) := by decide +kernel
theorem dL_strongest_16 : decode cL_strongest 16 = .ok (.ireturn, 1) := by decide +kernel
theorem dL_strongest_17 : decode cL_strongest 17 = .ok (.astore 4, 2) := by decide +kernel
theorem dL_strongest_19 : decode cL_strongest 19 = .ok (.iconst 2, 1) := by decide +kernel
theorem dL_strongest_20 : decode cL_strongest 20 = .ok (.ireturn, 1) := by decide +kernel
theorem dL_strongest_21 : decode cL_strongest 21 = .ok (.iconst 0, 1) := by decide +kernel
theorem dL_strongest_22 : decode cL_strongest 22 = .ok (.ireturn, 1) := by decide +kernel
theorem dL_closest_0 : decode cL_closest 0 = .ok (.aload_n 2, 1) := by decide +kernel
theorem dL_closest_1 : decode cL_closest 1 = .ok (.iconst 0, 1) := by decide +kernel
theorem dL_closest_2 : decode cL_closest 2 = .ok (.aload_n 0, 1) := by decide +kernel
theorem dL_closest_3 : decode cL_closest 3 = .ok (.iload_n 1, 1) := by decide +kernel
theorem dL_closest_4 : decode cL_closest 4 = .ok (.invokevirtual 64, 3) := by decide +kernel
theorem dL_closest_7 : decode cL_closest 7 = .ok (.i2l, 1) := by decide +kernel
theorem dL_closest_8 : decode cL_closest 8 = .ok (.lastore, 1) := by decide +kernel
theorem dL_closest_9 : decode cL_closest 9 = .ok (.goto 9, 3) := by decide +kernel
theorem dL_closest_12 : decode cL_closest 12 = .ok (.astore_n 3, 1) := by decide +kernel
theorem dL_closest_13 : decode cL_closest 13 = .ok (.iconst 1, 1) := by decide +kernel
theorem dL_closest_14 : decode cL_closest 14 = .ok (.ireturn, 1) := by decide +kernel
theorem dL_closest_15 : decode cL_closest 15 = .ok (.astore_n 3, 1) := by decide +kernel
theorem dL_closest_16 : decode cL_closest 16 = .ok (.iconst 2, 1) := by decide +kernel
theorem dL_closest_17 : decode cL_closest 17 = .ok (.ireturn, 1) := by decide +kernel
theorem dL_closest_18 : decode cL_closest 18 = .ok (.iconst 0, 1) := by decide +kernel
theorem dL_closest_19 : decode cL_closest 19 = .ok (.ireturn, 1) := by decide +kernel
theorem dL_knows_0 : decode cL_knows 0 = .ok (.aload_n 3, 1) := by decide +kernel
theorem dL_knows_1 : decode cL_knows 1 = .ok (.iconst 0, 1) := by decide +kernel
theorem dL_knows_2 : decode cL_knows 2 = .ok (.aload_n 0, 1) := by decide +kernel
theorem dL_knows_3 : decode cL_knows 3 = .ok (.iload_n 1, 1) := by decide +kernel
theorem dL_knows_4 : decode cL_knows 4 = .ok (.iload_n 2, 1) := by decide +kernel
theorem dL_knows_5 : decode cL_knows 5 = .ok (.invokevirtual 67, 3) := by decide +kernel
theorem dL_knows_8 : decode cL_knows 8 = .ok (.f2d, 1) := by decide +kernel
theorem dL_knows_9 : decode cL_knows 9 = .ok (.dastore, 1) := by decide +kernel
theorem dL_knows_10 : decode cL_knows 10 = .ok (.goto 7, 3) := by decide +kernel
theorem dL_knows_13 : decode cL_knows 13 = .ok (.astore 4, 2) := by decide +kernel
theorem dL_knows_15 : decode cL_knows 15 = .ok (.iconst 1, 1) := by decide +kernel
theorem dL_knows_16 : decode cL_knows 16 = .ok (.ireturn, 1) := by decide +kernel
theorem dL_knows_17 : decode cL_knows 17 = .ok (.iconst 0, 1) := by decide +kernel
theorem dL_knows_18 : decode cL_knows 18 = .ok (.ireturn, 1) := by decide +kernel
theorem dL_teach_0 : decode cL_teach 0 = .ok (.aload_n 3, 1) := by decide +kernel
theorem dL_teach_1 : decode cL_teach 1 = .ok (.iconst 0, 1) := by decide +kernel
theorem dL_teach_2 : decode cL_teach 2 = .ok (.aload_n 0, 1) := by decide +kernel
theorem dL_teach_3 : decode cL_teach 3 = .ok (.iload_n 1, 1) := by decide +kernel
theorem dL_teach_4 : decode cL_teach 4 = .ok (.iload_n 2, 1) := by decide +kernel
theorem dL_teach_5 : decode cL_teach 5 = .ok (.invokevirtual 70, 3) := by decide +kernel
theorem dL_teach_8 : decode cL_teach 8 = .ok (.i2l, 1) := by decide +kernel
theorem dL_teach_9 : decode cL_teach 9 = .ok (.lastore, 1) := by decide +kernel
theorem dL_teach_10 : decode cL_teach 10 = .ok (.goto 11, 3) := by decide +kernel
theorem dL_teach_13 : decode cL_teach 13 = .ok (.astore 4, 2) := by decide +kernel
theorem dL_teach_15 : decode cL_teach 15 = .ok (.iconst 1, 1) := by decide +kernel
theorem dL_teach_16 : decode cL_teach 16 = .ok (.ireturn, 1) := by decide +kernel
theorem dL_teach_17 : decode cL_teach 17 = .ok (.astore 4, 2) := by decide +kernel
theorem dL_teach_19 : decode cL_teach 19 = .ok (.iconst 2, 1) := by decide +kernel
theorem dL_teach_20 : decode cL_teach 20 = .ok (.ireturn, 1) := by decide +kernel
theorem dL_teach_21 : decode cL_teach 21 = .ok (.iconst 0, 1) := by decide +kernel
theorem dL_teach_22 : decode cL_teach 22 = .ok (.ireturn, 1) := by decide +kernel
theorem dL_day_0 : decode cL_day 0 = .ok (.aload_n 2, 1) := by decide +kernel
theorem dL_day_1 : decode cL_day 1 = .ok (.iconst 0, 1) := by decide +kernel
theorem dL_day_2 : decode cL_day 2 = .ok (.aload_n 0, 1) := by decide +kernel
theorem dL_day_3 : decode cL_day 3 = .ok (.iload_n 1, 1) := by decide +kernel
theorem dL_day_4 : decode cL_day 4 = .ok (.invokevirtual 73, 3) := by decide +kernel
theorem dL_day_7 : decode cL_day 7 = .ok (.i2l, 1) := by decide +kernel
theorem dL_day_8 : decode cL_day 8 = .ok (.lastore, 1) := by decide +kernel
theorem dL_day_9 : decode cL_day 9 = .ok (.goto 9, 3) := by decide +kernel
theorem dL_day_12 : decode cL_day 12 = .ok (.astore_n 3, 1) := by decide +kernel
theorem dL_day_13 : decode cL_day 13 = .ok (.iconst 1, 1) := by decide +kernel
theorem dL_day_14 : decode cL_day 14 = .ok (.ireturn, 1) := by decide +kernel
theorem dL_day_15 : decode cL_day 15 = .ok (.astore_n 3, 1) := by decide +kernel
theorem dL_day_16 : decode cL_day 16 = .ok (.iconst 2, 1) := by decide +kernel
theorem dL_day_17 : decode cL_day 17 = .ok (.ireturn, 1) := by decide +kernel
theorem dL_day_18 : decode cL_day 18 = .ok (.iconst 0, 1) := by decide +kernel
theorem dL_day_19 : decode cL_day 19 = .ok (.ireturn, 1) := by decide +kernel
theorem dL_days_0 : decode cL_days 0 = .ok (.aload_n 3, 1) := by decide +kernel
theorem dL_days_1 : decode cL_days 1 = .ok (.iconst 0, 1) := by decide +kernel
theorem dL_days_2 : decode cL_days 2 = .ok (.aload_n 0, 1) := by decide +kernel
theorem dL_days_3 : decode cL_days 3 = .ok (.iload_n 1, 1) := by decide +kernel
theorem dL_days_4 : decode cL_days 4 = .ok (.iload_n 2, 1) := by decide +kernel
theorem dL_days_5 : decode cL_days 5 = .ok (.invokevirtual 76, 3) := by decide +kernel
theorem dL_days_8 : decode cL_days 8 = .ok (.i2l, 1) := by decide +kernel
theorem dL_days_9 : decode cL_days 9 = .ok (.lastore, 1) := by decide +kernel
theorem dL_days_10 : decode cL_days 10 = .ok (.goto 15, 3) := by decide +kernel
theorem dL_days_13 : decode cL_days 13 = .ok (.astore 4, 2) := by decide +kernel
theorem dL_days_15 : decode cL_days 15 = .ok (.iconst 1, 1) := by decide +kernel
theorem dL_days_16 : decode cL_days 16 = .ok (.ireturn, 1) := by decide +kernel
theorem dL_days_17 : decode cL_days 17 = .ok (.astore 4, 2) := by decide +kernel
theorem dL_days_19 : decode cL_days 19 = .ok (.iconst 2, 1) := by decide +kernel
theorem dL_days_20 : decode cL_days 20 = .ok (.ireturn, 1) := by decide +kernel
theorem dL_days_21 : decode cL_days 21 = .ok (.astore 4, 2) := by decide +kernel
theorem dL_days_23 : decode cL_days 23 = .ok (.iconst 3, 1) := by decide +kernel
theorem dL_days_24 : decode cL_days 24 = .ok (.ireturn, 1) := by decide +kernel
theorem dL_days_25 : decode cL_days 25 = .ok (.iconst 0, 1) := by decide +kernel
theorem dL_days_26 : decode cL_days 26 = .ok (.ireturn, 1) := by decide +kernel
theorem dL_wouldCalm_0 : decode cL_wouldCalm 0 = .ok (.aload_n 3, 1) := by decide +kernel
theorem dL_wouldCalm_1 : decode cL_wouldCalm 1 = .ok (.iconst 0, 1) := by decide +kernel
theorem dL_wouldCalm_2 : decode cL_wouldCalm 2 = .ok (.aload_n 0, 1) := by decide +kernel
theorem dL_wouldCalm_3 : decode cL_wouldCalm 3 = .ok (.iload_n 1, 1) := by decide +kernel
theorem dL_wouldCalm_4 : decode cL_wouldCalm 4 = .ok (.iload_n 2, 1) := by decide +kernel
theorem dL_wouldCalm_5 : decode cL_wouldCalm 5 = .ok (.invokevirtual 79, 3) := by decide +kernel
theorem dL_wouldCalm_8 : decode cL_wouldCalm 8 = .ok (.i2l, 1) := by decide +kernel
theorem dL_wouldCalm_9 : decode cL_wouldCalm 9 = .ok (.lastore, 1) := by decide +kernel
theorem dL_wouldCalm_10 : decode cL_wouldCalm 10 = .ok (.goto 15, 3) := by decide +kernel
theorem dL_wouldCalm_13 : decode cL_wouldCalm 13 = .ok (.astore 4, 2) := by decide +kernel
theorem dL_wouldCalm_15 : decode cL_wouldCalm 15 = .ok (.iconst 1, 1) := by decide +kernel
theorem dL_wouldCalm_16 : decode cL_wouldCalm 16 = .ok (.ireturn, 1) := by decide +kernel
theorem dL_wouldCalm_17 : decode cL_wouldCalm 17 = .ok (.astore 4, 2) := by decide +kernel
theorem dL_wouldCalm_19 : decode cL_wouldCalm 19 = .ok (.iconst 2, 1) := by decide +kernel
theorem dL_wouldCalm_20 : decode cL_wouldCalm 20 = .ok (.ireturn, 1) := by decide +kernel
theorem dL_wouldCalm_21 : decode cL_wouldCalm 21 = .ok (.astore 4, 2) := by decide +kernel
theorem dL_wouldCalm_23 : decode cL_wouldCalm 23 = .ok (.iconst 3, 1) := by decide +kernel
theorem dL_wouldCalm_24 : decode cL_wouldCalm 24 = .ok (.ireturn, 1) := by decide +kernel
theorem dL_wouldCalm_25 : decode cL_wouldCalm 25 = .ok (.iconst 0, 1) := by decide +kernel
theorem dL_wouldCalm_26 : decode cL_wouldCalm 26 = .ok (.ireturn, 1) := by decide +kernel
theorem dL_wouldPush_0 : decode cL_wouldPush 0 = .ok (.aload_n 3, 1) := by decide +kernel
theorem dL_wouldPush_1 : decode cL_wouldPush 1 = .ok (.iconst 0, 1) := by decide +kernel
theorem dL_wouldPush_2 : decode cL_wouldPush 2 = .ok (.aload_n 0, 1) := by decide +kernel
theorem dL_wouldPush_3 : decode cL_wouldPush 3 = .ok (.iload_n 1, 1) := by decide +kernel
theorem dL_wouldPush_4 : decode cL_wouldPush 4 = .ok (.iload_n 2, 1) := by decide +kernel
theorem dL_wouldPush_5 : decode cL_wouldPush 5 = .ok (.invokevirtual 82, 3) := by decide +kernel
theorem dL_wouldPush_8 : decode cL_wouldPush 8 = .ok (.ifCond .eq 7, 3) := by decide +kernel
theorem dL_wouldPush_11 : decode cL_wouldPush 11 = .ok (.lconst 1, 1) := by decide +kernel
theorem dL_wouldPush_12 : decode cL_wouldPush 12 = .ok (.goto 4, 3) := by decide +kernel
theorem dL_wouldPush_15 : decode cL_wouldPush 15 = .ok (.lconst 0, 1) := by decide +kernel
theorem dL_wouldPush_16 : decode cL_wouldPush 16 = .ok (.lastore, 1) := by decide +kernel
theorem dL_wouldPush_17 : decode cL_wouldPush 17 = .ok (.goto 7, 3) := by decide +kernel
theorem dL_wouldPush_20 : decode cL_wouldPush 20 = .ok (.astore 4, 2) := by decide +kernel
theorem dL_wouldPush_22 : decode cL_wouldPush 22 = .ok (.iconst 1, 1) := by decide +kernel
theorem dL_wouldPush_23 : decode cL_wouldPush 23 = .ok (.ireturn, 1) := by decide +kernel
theorem dL_wouldPush_24 : decode cL_wouldPush 24 = .ok (.iconst 0, 1) := by decide +kernel
theorem dL_wouldPush_25 : decode cL_wouldPush 25 = .ok (.ireturn, 1) := by decide +kernel
theorem dL_votes_0 : decode cL_votes 0 = .ok (.aload_n 2, 1) := by decide +kernel
theorem dL_votes_1 : decode cL_votes 1 = .ok (.iconst 0, 1) := by decide +kernel
theorem dL_votes_2 : decode cL_votes 2 = .ok (.aload_n 0, 1) := by decide +kernel
theorem dL_votes_3 : decode cL_votes 3 = .ok (.iload_n 1, 1) := by decide +kernel
theorem dL_votes_4 : decode cL_votes 4 = .ok (.invokevirtual 85, 3) := by decide +kernel
theorem dL_votes_7 : decode cL_votes 7 = .ok (.i2l, 1) := by decide +kernel
theorem dL_votes_8 : decode cL_votes 8 = .ok (.lastore, 1) := by decide +kernel
theorem dL_votes_9 : decode cL_votes 9 = .ok (.goto 6, 3) := by decide +kernel
theorem dL_votes_12 : decode cL_votes 12 = .ok (.astore_n 3, 1) := by decide +kernel
theorem dL_votes_13 : decode cL_votes 13 = .ok (.iconst 1, 1) := by decide +kernel
theorem dL_votes_14 : decode cL_votes 14 = .ok (.ireturn, 1) := by decide +kernel
theorem dL_votes_15 : decode cL_votes 15 = .ok (.iconst 0, 1) := by decide +kernel
theorem dL_votes_16 : decode cL_votes 16 = .ok (.ireturn, 1) := by decide +kernel
theorem dL_isVotedIn_0 : decode cL_isVotedIn 0 = .ok (.aload_n 2, 1) := by decide +kernel
theorem dL_isVotedIn_1 : decode cL_isVotedIn 1 = .ok (.iconst 0, 1) := by decide +kernel
theorem dL_isVotedIn_2 : decode cL_isVotedIn 2 = .ok (.aload_n 0, 1) := by decide +kernel
theorem dL_isVotedIn_3 : decode cL_isVotedIn 3 = .ok (.iload_n 1, 1) := by decide +kernel
theorem dL_isVotedIn_4 : decode cL_isVotedIn 4 = .ok (.invokevirtual 88, 3) := by decide +kernel
theorem dL_isVotedIn_7 : decode cL_isVotedIn 7 = .ok (.ifCond .eq 7, 3) := by decide +kernel
theorem dL_isVotedIn_10 : decode cL_isVotedIn 10 = .ok (.lconst 1, 1) := by decide +kernel
theorem dL_isVotedIn_11 : decode cL_isVotedIn 11 = .ok (.goto 4, 3) := by decide +kernel
theorem dL_isVotedIn_14 : decode cL_isVotedIn 14 = .ok (.lconst 0, 1) := by decide +kernel
theorem dL_isVotedIn_15 : decode cL_isVotedIn 15 = .ok (.lastore, 1) := by decide +kernel
theorem dL_isVotedIn_16 : decode cL_isVotedIn 16 = .ok (.goto 6, 3) := by decide +kernel
theorem dL_isVotedIn_19 : decode cL_isVotedIn 19 = .ok (.astore_n 3, 1) := by decide +kernel
theorem dL_isVotedIn_20 : decode cL_isVotedIn 20 = .ok (.iconst 1, 1) := by decide +kernel
theorem dL_isVotedIn_21 : decode cL_isVotedIn 21 = .ok (.ireturn, 1) := by decide +kernel
theorem dL_isVotedIn_22 : decode cL_isVotedIn 22 = .ok (.iconst 0, 1) := by decide +kernel
theorem dL_isVotedIn_23 : decode cL_isVotedIn 23 = .ok (.ireturn, 1) := by decide +kernel
theorem dL_agree_0 : decode cL_agree 0 = .ok (.aload_n 3, 1) := by decide +kernel
theorem dL_agree_1 : decode cL_agree 1 = .ok (.iconst 0, 1) := by decide +kernel
theorem dL_agree_2 : decode cL_agree 2 = .ok (.aload_n 0, 1) := by decide +kernel
theorem dL_agree_3 : decode cL_agree 3 = .ok (.iload_n 1, 1) := by decide +kernel
theorem dL_agree_4 : decode cL_agree 4 = .ok (.iload_n 2, 1) := by decide +kernel
theorem dL_agree_5 : decode cL_agree 5 = .ok (.invokevirtual 92, 3) := by decide +kernel
theorem dL_agree_8 : decode cL_agree 8 = .ok (.i2l, 1) := by decide +kernel
theorem dL_agree_9 : decode cL_agree 9 = .ok (.lastore, 1) := by decide +kernel
theorem dL_agree_10 : decode cL_agree 10 = .ok (.goto 7, 3) := by decide +kernel
theorem dL_agree_13 : decode cL_agree 13 = .ok (.astore 4, 2) := by decide +kernel
theorem dL_agree_15 : decode cL_agree 15 = .ok (.iconst 1, 1) := by decide +kernel
theorem dL_agree_16 : decode cL_agree 16 = .ok (.ireturn, 1) := by decide +kernel
theorem dL_agree_17 : decode cL_agree 17 = .ok (.iconst 0, 1) := by decide +kernel
theorem dL_agree_18 : decode cL_agree 18 = .ok (.ireturn, 1) := by decide +kernel
theorem dL_ranked_0 : decode cL_ranked 0 = .ok (.aload_n 2, 1) := by decide +kernel
theorem dL_ranked_1 : decode cL_ranked 1 = .ok (.iconst 0, 1) := by decide +kernel
theorem dL_ranked_2 : decode cL_ranked 2 = .ok (.aload_n 0, 1) := by decide +kernel
theorem dL_ranked_3 : decode cL_ranked 3 = .ok (.iload_n 1, 1) := by decide +kernel
theorem dL_ranked_4 : decode cL_ranked 4 = .ok (.invokevirtual 95, 3) := by decide +kernel
theorem dL_ranked_7 : decode cL_ranked 7 = .ok (.i2l, 1) := by decide +kernel
theorem dL_ranked_8 : decode cL_ranked 8 = .ok (.lastore, 1) := by decide +kernel
theorem dL_ranked_9 : decode cL_ranked 9 = .ok (.goto 6, 3) := by decide +kernel
theorem dL_ranked_12 : decode cL_ranked 12 = .ok (.astore_n 3, 1) := by decide +kernel
theorem dL_ranked_13 : decode cL_ranked 13 = .ok (.iconst 1, 1) := by decide +kernel
theorem dL_ranked_14 : decode cL_ranked 14 = .ok (.ireturn, 1) := by decide +kernel
theorem dL_ranked_15 : decode cL_ranked 15 = .ok (.iconst 0, 1) := by decide +kernel
theorem dL_ranked_16 : decode cL_ranked 16 = .ok (.ireturn, 1) := by decide +kernel
theorem dL_line_0 : decode cL_line 0 = .ok (.aload_n 2, 1) := by decide +kernel
theorem dL_line_1 : decode cL_line 1 = .ok (.iconst 0, 1) := by decide +kernel
theorem dL_line_2 : decode cL_line 2 = .ok (.aload_n 0, 1) := by decide +kernel
theorem dL_line_3 : decode cL_line 3 = .ok (.iload_n 1, 1) := by decide +kernel
theorem dL_line_4 : decode cL_line 4 = .ok (.invokevirtual 98, 3) := by decide +kernel
theorem dL_line_7 : decode cL_line 7 = .ok (.i2l, 1) := by decide +kernel
theorem dL_line_8 : decode cL_line 8 = .ok (.lastore, 1) := by decide +kernel
theorem dL_line_9 : decode cL_line 9 = .ok (.goto 6, 3) := by decide +kernel
theorem dL_line_12 : decode cL_line 12 = .ok (.astore_n 3, 1) := by decide +kernel
theorem dL_line_13 : decode cL_line 13 = .ok (.iconst 1, 1) := by decide +kernel
theorem dL_line_14 : decode cL_line 14 = .ok (.ireturn, 1) := by decide +kernel
theorem dL_line_15 : decode cL_line 15 = .ok (.iconst 0, 1) := by decide +kernel
theorem dL_line_16 : decode cL_line 16 = .ok (.ireturn, 1) := by decide +kernel
theorem dL_guardLine_0 : decode cL_guardLine 0 = .ok (.aload_n 2, 1) := by decide +kernel
theorem dL_guardLine_1 : decode cL_guardLine 1 = .ok (.iconst 0, 1) := by decide +kernel
theorem dL_guardLine_2 : decode cL_guardLine 2 = .ok (.aload_n 0, 1) := by decide +kernel
theorem dL_guardLine_3 : decode cL_guardLine 3 = .ok (.iload_n 1, 1) := by decide +kernel
theorem dL_guardLine_4 : decode cL_guardLine 4 = .ok (.invokevirtual 101, 3) := by decide +kernel
theorem dL_guardLine_7 : decode cL_guardLine 7 = .ok (.i2l, 1) := by decide +kernel
theorem dL_guardLine_8 : decode cL_guardLine 8 = .ok (.lastore, 1) := by decide +kernel
theorem dL_guardLine_9 : decode cL_guardLine 9 = .ok (.goto 6, 3) := by decide +kernel
theorem dL_guardLine_12 : decode cL_guardLine 12 = .ok (.astore_n 3, 1) := by decide +kernel
theorem dL_guardLine_13 : decode cL_guardLine 13 = .ok (.iconst 1, 1) := by decide +kernel
theorem dL_guardLine_14 : decode cL_guardLine 14 = .ok (.ireturn, 1) := by decide +kernel
theorem dL_guardLine_15 : decode cL_guardLine 15 = .ok (.iconst 0, 1) := by decide +kernel
theorem dL_guardLine_16 : decode cL_guardLine 16 = .ok (.ireturn, 1) := by decide +kernel
theorem dL_character_0 : decode cL_character 0 = .ok (.aload_n 2, 1) := by decide +kernel
theorem dL_character_1 : decode cL_character 1 = .ok (.iconst 0, 1) := by decide +kernel
theorem dL_character_2 : decode cL_character 2 = .ok (.aload_n 0, 1) := by decide +kernel
theorem dL_character_3 : decode cL_character 3 = .ok (.iload_n 1, 1) := by decide +kernel
theorem dL_character_4 : decode cL_character 4 = .ok (.invokevirtual 104, 3) := by decide +kernel
theorem dL_character_7 : decode cL_character 7 = .ok (.i2l, 1) := by decide +kernel
theorem dL_character_8 : decode cL_character 8 = .ok (.lastore, 1) := by decide +kernel
theorem dL_character_9 : decode cL_character 9 = .ok (.goto 6, 3) := by decide +kernel
theorem dL_character_12 : decode cL_character 12 = .ok (.astore_n 3, 1) := by decide +kernel
theorem dL_character_13 : decode cL_character 13 = .ok (.iconst 1, 1) := by decide +kernel
theorem dL_character_14 : decode cL_character 14 = .ok (.ireturn, 1) := by decide +kernel
theorem dL_character_15 : decode cL_character 15 = .ok (.iconst 0, 1) := by decide +kernel
theorem dL_character_16 : decode cL_character 16 = .ok (.ireturn, 1) := by decide +kernel
theorem dL_append_0 : decode cL_append 0 = .ok (.aload_n 2, 1) := by decide +kernel
theorem dL_append_1 : decode cL_append 1 = .ok (.iconst 0, 1) := by decide +kernel
theorem dL_append_2 : decode cL_append 2 = .ok (.aload_n 0, 1) := by decide +kernel
theorem dL_append_3 : decode cL_append 3 = .ok (.iload_n 1, 1) := by decide +kernel
theorem dL_append_4 : decode cL_append 4 = .ok (.invokevirtual 108, 3) := by decide +kernel
theorem dL_append_7 : decode cL_append 7 = .ok (.i2l, 1) := by decide +kernel
theorem dL_append_8 : decode cL_append 8 = .ok (.lastore, 1) := by decide +kernel
theorem dL_append_9 : decode cL_append 9 = .ok (.goto 6, 3) := by decide +kernel
theorem dL_append_12 : decode cL_append 12 = .ok (.astore_n 3, 1) := by decide +kernel
theorem dL_append_13 : decode cL_append 13 = .ok (.iconst 1, 1) := by decide +kernel
theorem dL_append_14 : decode cL_append 14 = .ok (.ireturn, 1) := by decide +kernel
theorem dL_append_15 : decode cL_append 15 = .ok (.iconst 0, 1) := by decide +kernel
theorem dL_append_16 : decode cL_append 16 = .ok (.ireturn, 1) := by decide +kernel
theorem dL_run_0 : decode cL_run 0 = .ok (.aload_n 1, 1) := by decide +kernel
theorem dL_run_1 : decode cL_run 1 = .ok (.iconst 0, 1) := by decide +kernel
theorem dL_run_2 : decode cL_run 2 = .ok (.aload_n 0, 1) := by decide +kernel
theorem dL_run_3 : decode cL_run 3 = .ok (.invokevirtual 114, 3) := by decide +kernel
theorem dL_run_6 : decode cL_run 6 = .ok (.i2l, 1) := by decide +kernel
theorem dL_run_7 : decode cL_run 7 = .ok (.lastore, 1) := by decide +kernel
theorem dL_run_8 : decode cL_run 8 = .ok (.goto 9, 3) := by decide +kernel
theorem dL_run_11 : decode cL_run 11 = .ok (.astore_n 2, 1) := by decide +kernel
theorem dL_run_12 : decode cL_run 12 = .ok (.iconst 1, 1) := by decide +kernel
theorem dL_run_13 : decode cL_run 13 = .ok (.ireturn, 1) := by decide +kernel
theorem dL_run_14 : decode cL_run 14 = .ok (.astore_n 2, 1) := by decide +kernel
theorem dL_run_15 : decode cL_run 15 = .ok (.iconst 2, 1) := by decide +kernel
theorem dL_run_16 : decode cL_run 16 = .ok (.ireturn, 1) := by decide +kernel
theorem dL_run_17 : decode cL_run 17 = .ok (.iconst 0, 1) := by decide +kernel
theorem dL_run_18 : decode cL_run 18 = .ok (.ireturn, 1) := by decide +kernel
theorem dL_refusal_0 : decode cL_refusal 0 = .ok (.aload_n 2, 1) := by decide +kernel
theorem dL_refusal_1 : decode cL_refusal 1 = .ok (.iconst 0, 1) := by decide +kernel
theorem dL_refusal_2 : decode cL_refusal 2 = .ok (.aload_n 0, 1) := by decide +kernel
theorem dL_refusal_3 : decode cL_refusal 3 = .ok (.iload_n 1, 1) := by decide +kernel
theorem dL_refusal_4 : decode cL_refusal 4 = .ok (.invokevirtual 118, 3) := by decide +kernel
theorem dL_refusal_7 : decode cL_refusal 7 = .ok (.i2l, 1) := by decide +kernel
theorem dL_refusal_8 : decode cL_refusal 8 = .ok (.lastore, 1) := by decide +kernel
theorem dL_refusal_9 : decode cL_refusal 9 = .ok (.goto 6, 3) := by decide +kernel
theorem dL_refusal_12 : decode cL_refusal 12 = .ok (.astore_n 3, 1) := by decide +kernel
theorem dL_refusal_13 : decode cL_refusal 13 = .ok (.iconst 1, 1) := by decide +kernel
theorem dL_refusal_14 : decode cL_refusal 14 = .ok (.ireturn, 1) := by decide +kernel
theorem dL_refusal_15 : decode cL_refusal 15 = .ok (.iconst 0, 1) := by decide +kernel
theorem dL_refusal_16 : decode cL_refusal 16 = .ok (.ireturn, 1) := by decide +kernel
theorem dL_account_0 : decode cL_account 0 = .ok (.aload_n 2, 1) := by decide +kernel
theorem dL_account_1 : decode cL_account 1 = .ok (.iconst 0, 1) := by decide +kernel
theorem dL_account_2 : decode cL_account 2 = .ok (.aload_n 0, 1) := by decide +kernel
theorem dL_account_3 : decode cL_account 3 = .ok (.iload_n 1, 1) := by decide +kernel
theorem dL_account_4 : decode cL_account 4 = .ok (.invokevirtual 122, 3) := by decide +kernel
theorem dL_account_7 : decode cL_account 7 = .ok (.i2l, 1) := by decide +kernel
theorem dL_account_8 : decode cL_account 8 = .ok (.lastore, 1) := by decide +kernel
theorem dL_account_9 : decode cL_account 9 = .ok (.goto 6, 3) := by decide +kernel
theorem dL_account_12 : decode cL_account 12 = .ok (.astore_n 3, 1) := by decide +kernel
theorem dL_account_13 : decode cL_account 13 = .ok (.iconst 1, 1) := by decide +kernel
theorem dL_account_14 : decode cL_account 14 = .ok (.ireturn, 1) := by decide +kernel
theorem dL_account_15 : decode cL_account 15 = .ok (.iconst 0, 1) := by decide +kernel
theorem dL_account_16 : decode cL_account 16 = .ok (.ireturn, 1) := by decide +kernel
theorem dL_meanBadges_0 : decode cL_meanBadges 0 = .ok (.aload_n 1, 1) := by decide +kernel
theorem dL_meanBadges_1 : decode cL_meanBadges 1 = .ok (.iconst 0, 1) := by decide +kernel
theorem dL_meanBadges_2 : decode cL_meanBadges 2 = .ok (.aload_n 0, 1) := by decide +kernel
theorem dL_meanBadges_3 : decode cL_meanBadges 3 = .ok (.invokevirtual 125, 3) := by decide +kernel
theorem dL_meanBadges_6 : decode cL_meanBadges 6 = .ok (.dastore, 1) := by decide +kernel
theorem dL_meanBadges_7 : decode cL_meanBadges 7 = .ok (.goto 6, 3) := by decide +kernel
theorem dL_meanBadges_10 : decode cL_meanBadges 10 = .ok (.astore_n 2, 1) := by decide +kernel
theorem dL_meanBadges_11 : decode cL_meanBadges 11 = .ok (.iconst 1, 1) := by decide +kernel
theorem dL_meanBadges_12 : decode cL_meanBadges 12 = .ok (.ireturn, 1) := by decide +kernel
theorem dL_meanBadges_13 : decode cL_meanBadges 13 = .ok (.iconst 0, 1) := by decide +kernel
theorem dL_meanBadges_14 : decode cL_meanBadges 14 = .ok (.ireturn, 1) := by decide +kernel
theorem dL_undo_0 : decode cL_undo 0 = .ok (.aload_n 1, 1) := by decide +kernel
theorem dL_undo_1 : decode cL_undo 1 = .ok (.iconst 0, 1) := by decide +kernel
theorem dL_undo_2 : decode cL_undo 2 = .ok (.aload_n 0, 1) := by decide +kernel
theorem dL_undo_3 : decode cL_undo 3 = .ok (.invokevirtual 129, 3) := by decide +kernel
theorem dL_undo_6 : decode cL_undo 6 = .ok (.i2l, 1) := by decide +kernel
theorem dL_undo_7 : decode cL_undo 7 = .ok (.lastore, 1) := by decide +kernel
theorem dL_undo_8 : decode cL_undo 8 = .ok (.goto 6, 3) := by decide +kernel
theorem dL_undo_11 : decode cL_undo 11 = .ok (.astore_n 2, 1) := by decide +kernel
theorem dL_undo_12 : decode cL_undo 12 = .ok (.iconst 1, 1) := by decide +kernel
theorem dL_undo_13 : decode cL_undo 13 = .ok (.ireturn, 1) := by decide +kernel
theorem dL_undo_14 : decode cL_undo 14 = .ok (.iconst 0, 1) := by decide +kernel
theorem dL_undo_15 : decode cL_undo 15 = .ok (.ireturn, 1) := by decide +kernel
theorem dL_restore_0 : decode cL_restore 0 = .ok (.aload_n 1, 1) := by decide +kernel
theorem dL_restore_1 : decode cL_restore 1 = .ok (.iconst 0, 1) := by decide +kernel
theorem dL_restore_2 : decode cL_restore 2 = .ok (.aload_n 0, 1) := by decide +kernel
theorem dL_restore_3 : decode cL_restore 3 = .ok (.invokevirtual 132, 3) := by decide +kernel
theorem dL_restore_6 : decode cL_restore 6 = .ok (.i2l, 1) := by decide +kernel
theorem dL_restore_7 : decode cL_restore 7 = .ok (.lastore, 1) := by decide +kernel
theorem dL_restore_8 : decode cL_restore 8 = .ok (.goto 6, 3) := by decide +kernel
theorem dL_restore_11 : decode cL_restore 11 = .ok (.astore_n 2, 1) := by decide +kernel
theorem dL_restore_12 : decode cL_restore 12 = .ok (.iconst 1, 1) := by decide +kernel
theorem dL_restore_13 : decode cL_restore 13 = .ok (.ireturn, 1) := by decide +kernel
theorem dL_restore_14 : decode cL_restore 14 = .ok (.iconst 0, 1) := by decide +kernel
theorem dL_restore_15 : decode cL_restore 15 = .ok (.ireturn, 1) := by decide +kernel
theorem dL_law_0 : decode cL_law 0 = .ok (.new 8, 3) := by decide +kernel
theorem dL_law_3 : decode cL_law 3 = .ok (.dup, 1) := by decide +kernel
theorem dL_law_4 : decode cL_law 4 = .ok (.invokespecial 135, 3) := by decide +kernel
theorem dL_law_7 : decode cL_law 7 = .ok (.astore_n 1, 1) := by decide +kernel
theorem dL_law_8 : decode cL_law 8 = .ok (.new 136, 3) := by decide +kernel
theorem dL_law_11 : decode cL_law 11 = .ok (.dup, 1) := by decide +kernel
theorem dL_law_12 : decode cL_law 12 = .ok (.invokespecial 138, 3) := by decide +kernel
theorem dL_law_15 : decode cL_law 15 = .ok (.astore_n 2, 1) := by decide +kernel
theorem dL_law_16 : decode cL_law 16 = .ok (.iconst 1, 1) := by decide +kernel
theorem dL_law_17 : decode cL_law 17 = .ok (.newarray .long, 2) := by decide +kernel
theorem dL_law_19 : decode cL_law 19 = .ok (.astore_n 3, 1) := by decide +kernel
theorem dL_law_20 : decode cL_law 20 = .ok (.iconst 1, 1) := by decide +kernel
theorem dL_law_21 : decode cL_law 21 = .ok (.newarray .double, 2) := by decide +kernel
theorem dL_law_23 : decode cL_law 23 = .ok (.astore 4, 2) := by decide +kernel
theorem dL_law_25 : decode cL_law 25 = .ok (.iconst 0, 1) := by decide +kernel
theorem dL_law_26 : decode cL_law 26 = .ok (.istore 5, 2) := by decide +kernel
theorem dL_law_28 : decode cL_law 28 = .ok (.iload 5, 2) := by decide +kernel
theorem dL_law_30 : decode cL_law 30 = .ok (.aload_n 0, 1) := by decide +kernel
theorem dL_law_31 : decode cL_law 31 = .ok (.arraylength, 1) := by decide +kernel
theorem dL_law_32 : decode cL_law 32 = .ok (.iconst 4, 1) := by decide +kernel
theorem dL_law_33 : decode cL_law 33 = .ok (.isub, 1) := by decide +kernel
theorem dL_law_34 : decode cL_law 34 = .ok (.if_icmp .gt 2466, 3) := by decide +kernel
theorem dL_law_37 : decode cL_law 37 = .ok (.aload_n 0, 1) := by decide +kernel
theorem dL_law_38 : decode cL_law 38 = .ok (.iload 5, 2) := by decide +kernel
theorem dL_law_40 : decode cL_law 40 = .ok (.iaload, 1) := by decide +kernel
theorem dL_law_41 : decode cL_law 41 = .ok (.bipush 63, 2) := by decide +kernel
theorem dL_law_43 : decode cL_law 43 = .ok (.iand, 1) := by decide +kernel
theorem dL_law_44 : decode cL_law 44 = .ok (.tableswitch 2450 0 37 #[168, 224, 292, 360, 444, 500, 568, 636, 754, 829, 897, 965, 1055, 1123, 1179, 1269, 1337, 1393, 1461, 1529, 1604, 1660, 1723, 1791, 1804, 1860, 1916, 1972, 2028, 2086, 2130, 2143, 2215, 2271, 2284, 2349, 2393, 2406], 168) := by decide +kernel
theorem dL_law_212 : decode cL_law 212 = .ok (.aload_n 1, 1) := by decide +kernel
theorem dL_law_213 : decode cL_law 213 = .ok (.aload_n 0, 1) := by decide +kernel
theorem dL_law_214 : decode cL_law 214 = .ok (.iload 5, 2) := by decide +kernel
theorem dL_law_216 : decode cL_law 216 = .ok (.iconst 1, 1) := by decide +kernel
theorem dL_law_217 : decode cL_law 217 = .ok (.iadd, 1) := by decide +kernel
theorem dL_law_218 : decode cL_law 218 = .ok (.iaload, 1) := by decide +kernel
theorem dL_law_219 : decode cL_law 219 = .ok (.aload_n 3, 1) := by decide +kernel
theorem dL_law_220 : decode cL_law 220 = .ok (.invokestatic 139, 3) := by decide +kernel
theorem dL_law_223 : decode cL_law 223 = .ok (.istore 6, 2) := by decide +kernel
theorem dL_law_225 : decode cL_law 225 = .ok (.aload_n 2, 1) := by decide +kernel
theorem dL_law_226 : decode cL_law 226 = .ok (.aload_n 0, 1) := by decide +kernel
theorem dL_law_227 : decode cL_law 227 = .ok (.iload 5, 2) := by decide +kernel
theorem dL_law_229 : decode cL_law 229 = .ok (.iconst 1, 1) := by decide +kernel
theorem dL_law_230 : decode cL_law 230 = .ok (.iadd, 1) := by decide +kernel
theorem dL_law_231 : decode cL_law 231 = .ok (.iaload, 1) := by decide +kernel
theorem dL_law_232 : decode cL_law 232 = .ok (.invokevirtual 144, 3) := by decide +kernel
theorem dL_law_235 : decode cL_law 235 = .ok (.istore 7, 2) := by decide +kernel
theorem dL_law_237 : decode cL_law 237 = .ok (.aload_n 2, 1) := by decide +kernel
theorem dL_law_238 : decode cL_law 238 = .ok (.invokevirtual 145, 3) := by decide +kernel
theorem dL_law_241 : decode cL_law 241 = .ok (.iload 6, 2) := by decide +kernel
theorem dL_law_243 : decode cL_law 243 = .ok (.if_icmp .eq 5, 3) := by decide +kernel
theorem dL_law_246 : decode cL_law 246 = .ok (.iconst 0, 1) := by decide +kernel
theorem dL_law_247 : decode cL_law 247 = .ok (.ireturn, 1) := by decide +kernel
theorem dL_law_248 : decode cL_law 248 = .ok (.iload 6, 2) := by decide +kernel
theorem dL_law_250 : decode cL_law 250 = .ok (.ifCond .ne 15, 3) := by decide +kernel
theorem dL_law_253 : decode cL_law 253 = .ok (.aload_n 3, 1) := by decide +kernel
theorem dL_law_254 : decode cL_law 254 = .ok (.iconst 0, 1) := by decide +kernel
theorem dL_law_255 : decode cL_law 255 = .ok (.laload, 1) := by decide +kernel
theorem dL_law_256 : decode cL_law 256 = .ok (.iload 7, 2) := by decide +kernel
theorem dL_law_258 : decode cL_law 258 = .ok (.i2l, 1) := by decide +kernel
theorem dL_law_259 : decode cL_law 259 = .ok (.lcmp, 1) := by decide +kernel
theorem dL_law_260 : decode cL_law 260 = .ok (.ifCond .eq 5, 3) := by decide +kernel
theorem dL_law_263 : decode cL_law 263 = .ok (.iconst 0, 1) := by decide +kernel
theorem dL_law_264 : decode cL_law 264 = .ok (.ireturn, 1) := by decide +kernel
theorem dL_law_265 : decode cL_law 265 = .ok (.goto 2229, 3) := by decide +kernel
theorem dL_law_268 : decode cL_law 268 = .ok (.aload_n 1, 1) := by decide +kernel
theorem dL_law_269 : decode cL_law 269 = .ok (.aload_n 0, 1) := by decide +kernel
theorem dL_law_270 : decode cL_law 270 = .ok (.iload 5, 2) := by decide +kernel
theorem dL_law_272 : decode cL_law 272 = .ok (.iconst 1, 1) := by decide +kernel
theorem dL_law_273 : decode cL_law 273 = .ok (.iadd, 1) := by decide +kernel
theorem dL_law_274 : decode cL_law 274 = .ok (.iaload, 1) := by decide +kernel
theorem dL_law_275 : decode cL_law 275 = .ok (.aload_n 0, 1) := by decide +kernel
theorem dL_law_276 : decode cL_law 276 = .ok (.iload 5, 2) := by decide +kernel
theorem dL_law_278 : decode cL_law 278 = .ok (.iconst 2, 1) := by decide +kernel
theorem dL_law_279 : decode cL_law 279 = .ok (.iadd, 1) := by decide +kernel
theorem dL_law_280 : decode cL_law 280 = .ok (.iaload, 1) := by decide +kernel
theorem dL_law_281 : decode cL_law 281 = .ok (.aload_n 3, 1) := by decide +kernel
theorem dL_law_282 : decode cL_law 282 = .ok (.invokestatic 148, 3) := by decide +kernel
theorem dL_law_285 : decode cL_law 285 = .ok (.istore 6, 2) := by decide +kernel
theorem dL_law_287 : decode cL_law 287 = .ok (.aload_n 2, 1) := by decide +kernel
theorem dL_law_288 : decode cL_law 288 = .ok (.aload_n 0, 1) := by decide +kernel
theorem dL_law_289 : decode cL_law 289 = .ok (.iload 5, 2) := by decide +kernel
theorem dL_law_291 : decode cL_law 291 = .ok (.iconst 1, 1) := by decide +kernel
theorem dL_law_292 : decode cL_law 292 = .ok (.iadd, 1) := by decide +kernel
theorem dL_law_293 : decode cL_law 293 = .ok (.iaload, 1) := by decide +kernel
theorem dL_law_294 : decode cL_law 294 = .ok (.aload_n 0, 1) := by decide +kernel
theorem dL_law_295 : decode cL_law 295 = .ok (.iload 5, 2) := by decide +kernel
theorem dL_law_297 : decode cL_law 297 = .ok (.iconst 2, 1) := by decide +kernel
theorem dL_law_298 : decode cL_law 298 = .ok (.iadd, 1) := by decide +kernel
theorem dL_law_299 : decode cL_law 299 = .ok (.iaload, 1) := by decide +kernel
theorem dL_law_300 : decode cL_law 300 = .ok (.invokevirtual 151, 3) := by decide +kernel
theorem dL_law_303 : decode cL_law 303 = .ok (.istore 7, 2) := by decide +kernel
theorem dL_law_305 : decode cL_law 305 = .ok (.aload_n 2, 1) := by decide +kernel
theorem dL_law_306 : decode cL_law 306 = .ok (.invokevirtual 145, 3) := by decide +kernel
theorem dL_law_309 : decode cL_law 309 = .ok (.iload 6, 2) := by decide +kernel
theorem dL_law_311 : decode cL_law 311 = .ok (.if_icmp .eq 5, 3) := by decide +kernel
theorem dL_law_314 : decode cL_law 314 = .ok (.iconst 0, 1) := by decide +kernel
theorem dL_law_315 : decode cL_law 315 = .ok (.ireturn, 1) := by decide +kernel
theorem dL_law_316 : decode cL_law 316 = .ok (.iload 6, 2) := by decide +kernel
theorem dL_law_318 : decode cL_law 318 = .ok (.ifCond .ne 15, 3) := by decide +kernel
theorem dL_law_321 : decode cL_law 321 = .ok (.aload_n 3, 1) := by decide +kernel
theorem dL_law_322 : decode cL_law 322 = .ok (.iconst 0, 1) := by decide +kernel
theorem dL_law_323 : decode cL_law 323 = .ok (.laload, 1) := by decide +kernel
theorem dL_law_324 : decode cL_law 324 = .ok (.iload 7, 2) := by decide +kernel
theorem dL_law_326 : decode cL_law 326 = .ok (.i2l, 1) := by decide +kernel
theorem dL_law_327 : decode cL_law 327 = .ok (.lcmp, 1) := by decide +kernel
theorem dL_law_328 : decode cL_law 328 = .ok (.ifCond .eq 5, 3) := by decide +kernel
theorem dL_law_331 : decode cL_law 331 = .ok (.iconst 0, 1) := by decide +kernel
theorem dL_law_332 : decode cL_law 332 = .ok (.ireturn, 1) := by decide +kernel
theorem dL_law_333 : decode cL_law 333 = .ok (.goto 2161, 3) := by decide +kernel
theorem dL_law_336 : decode cL_law 336 = .ok (.aload_n 1, 1) := by decide +kernel
theorem dL_law_337 : decode cL_law 337 = .ok (.aload_n 0, 1) := by decide +kernel
theorem dL_law_338 : decode cL_law 338 = .ok (.iload 5, 2) := by decide +kernel
theorem dL_law_340 : decode cL_law 340 = .ok (.iconst 1, 1) := by decide +kernel
theorem dL_law_341 : decode cL_law 341 = .ok (.iadd, 1) := by decide +kernel
theorem dL_law_342 : decode cL_law 342 = .ok (.iaload, 1) := by decide +kernel
theorem dL_law_343 : decode cL_law 343 = .ok (.aload_n 0, 1) := by decide +kernel
theorem dL_law_344 : decode cL_law 344 = .ok (.iload 5, 2) := by decide +kernel
theorem dL_law_346 : decode cL_law 346 = .ok (.iconst 2, 1) := by decide +kernel
theorem dL_law_347 : decode cL_law 347 = .ok (.iadd, 1) := by decide +kernel
theorem dL_law_348 : decode cL_law 348 = .ok (.iaload, 1) := by decide +kernel
theorem dL_law_349 : decode cL_law 349 = .ok (.aload_n 3, 1) := by decide +kernel
theorem dL_law_350 : decode cL_law 350 = .ok (.invokestatic 152, 3) := by decide +kernel
theorem dL_law_353 : decode cL_law 353 = .ok (.istore 6, 2) := by decide +kernel
theorem dL_law_355 : decode cL_law 355 = .ok (.aload_n 2, 1) := by decide +kernel
theorem dL_law_356 : decode cL_law 356 = .ok (.aload_n 0, 1) := by decide +kernel
theorem dL_law_357 : decode cL_law 357 = .ok (.iload 5, 2) := by decide +kernel
theorem dL_law_359 : decode cL_law 359 = .ok (.iconst 1, 1) := by decide +kernel
theorem dL_law_360 : decode cL_law 360 = .ok (.iadd, 1) := by decide +kernel
theorem dL_law_361 : decode cL_law 361 = .ok (.iaload, 1) := by decide +kernel
theorem dL_law_362 : decode cL_law 362 = .ok (.aload_n 0, 1) := by decide +kernel
theorem dL_law_363 : decode cL_law 363 = .ok (.iload 5, 2) := by decide +kernel
theorem dL_law_365 : decode cL_law 365 = .ok (.iconst 2, 1) := by decide +kernel
theorem dL_law_366 : decode cL_law 366 = .ok (.iadd, 1) := by decide +kernel
theorem dL_law_367 : decode cL_law 367 = .ok (.iaload, 1) := by decide +kernel
theorem dL_law_368 : decode cL_law 368 = .ok (.invokevirtual 154, 3) := by decide +kernel
theorem dL_law_371 : decode cL_law 371 = .ok (.istore 7, 2) := by decide +kernel
theorem dL_law_373 : decode cL_law 373 = .ok (.aload_n 2, 1) := by decide +kernel
theorem dL_law_374 : decode cL_law 374 = .ok (.invokevirtual 145, 3) := by decide +kernel
theorem dL_law_377 : decode cL_law 377 = .ok (.iload 6, 2) := by decide +kernel
theorem dL_law_379 : decode cL_law 379 = .ok (.if_icmp .eq 5, 3) := by decide +kernel
theorem dL_law_382 : decode cL_law 382 = .ok (.iconst 0, 1) := by decide +kernel
theorem dL_law_383 : decode cL_law 383 = .ok (.ireturn, 1) := by decide +kernel
theorem dL_law_384 : decode cL_law 384 = .ok (.iload 6, 2) := by decide +kernel
theorem dL_law_386 : decode cL_law 386 = .ok (.ifCond .ne 15, 3) := by decide +kernel
theorem dL_law_389 : decode cL_law 389 = .ok (.aload_n 3, 1) := by decide +kernel
theorem dL_law_390 : decode cL_law 390 = .ok (.iconst 0, 1) := by decide +kernel
theorem dL_law_391 : decode cL_law 391 = .ok (.laload, 1) := by decide +kernel
theorem dL_law_392 : decode cL_law 392 = .ok (.iload 7, 2) := by decide +kernel
theorem dL_law_394 : decode cL_law 394 = .ok (.i2l, 1) := by decide +kernel
theorem dL_law_395 : decode cL_law 395 = .ok (.lcmp, 1) := by decide +kernel
theorem dL_law_396 : decode cL_law 396 = .ok (.ifCond .eq 5, 3) := by decide +kernel
theorem dL_law_399 : decode cL_law 399 = .ok (.iconst 0, 1) := by decide +kernel
theorem dL_law_400 : decode cL_law 400 = .ok (.ireturn, 1) := by decide +kernel
theorem dL_law_401 : decode cL_law 401 = .ok (.goto 2093, 3) := by decide +kernel
theorem dL_law_404 : decode cL_law 404 = .ok (.aload_n 1, 1) := by decide +kernel
theorem dL_law_405 : decode cL_law 405 = .ok (.aload_n 0, 1) := by decide +kernel
theorem dL_law_406 : decode cL_law 406 = .ok (.iload 5, 2) := by decide +kernel
theorem dL_law_408 : decode cL_law 408 = .ok (.iconst 1, 1) := by decide +kernel
theorem dL_law_409 : decode cL_law 409 = .ok (.iadd, 1) := by decide +kernel
theorem dL_law_410 : decode cL_law 410 = .ok (.iaload, 1) := by decide +kernel
theorem dL_law_411 : decode cL_law 411 = .ok (.aload_n 0, 1) := by decide +kernel
theorem dL_law_412 : decode cL_law 412 = .ok (.iload 5, 2) := by decide +kernel
theorem dL_law_414 : decode cL_law 414 = .ok (.iconst 2, 1) := by decide +kernel
theorem dL_law_415 : decode cL_law 415 = .ok (.iadd, 1) := by decide +kernel
theorem dL_law_416 : decode cL_law 416 = .ok (.iaload, 1) := by decide +kernel
theorem dL_law_417 : decode cL_law 417 = .ok (.ifCond .eq 7, 3) := by decide +kernel
theorem dL_law_420 : decode cL_law 420 = .ok (.iconst 1, 1) := by decide +kernel
theorem dL_law_421 : decode cL_law 421 = .ok (.goto 4, 3) := by decide +kernel
theorem dL_law_424 : decode cL_law 424 = .ok (.iconst 0, 1) := by decide +kernel
theorem dL_law_425 : decode cL_law 425 = .ok (.aload_n 3, 1) := by decide +kernel
theorem dL_law_426 : decode cL_law 426 = .ok (.invokestatic 155, 3) := by decide +kernel
theorem dL_law_429 : decode cL_law 429 = .ok (.istore 6, 2) := by decide +kernel
theorem dL_law_431 : decode cL_law 431 = .ok (.aload_n 2, 1) := by decide +kernel
theorem dL_law_432 : decode cL_law 432 = .ok (.aload_n 0, 1) := by decide +kernel
theorem dL_law_433 : decode cL_law 433 = .ok (.iload 5, 2) := by decide +kernel
theorem dL_law_435 : decode cL_law 435 = .ok (.iconst 1, 1) := by decide +kernel
theorem dL_law_436 : decode cL_law 436 = .ok (.iadd, 1) := by decide +kernel
theorem dL_law_437 : decode cL_law 437 = .ok (.iaload, 1) := by decide +kernel
theorem dL_law_438 : decode cL_law 438 = .ok (.aload_n 0, 1) := by decide +kernel
theorem dL_law_439 : decode cL_law 439 = .ok (.iload 5, 2) := by decide +kernel
theorem dL_law_441 : decode cL_law 441 = .ok (.iconst 2, 1) := by decide +kernel
theorem dL_law_442 : decode cL_law 442 = .ok (.iadd, 1) := by decide +kernel
theorem dL_law_443 : decode cL_law 443 = .ok (.iaload, 1) := by decide +kernel
theorem dL_law_444 : decode cL_law 444 = .ok (.ifCond .eq 7, 3) := by decide +kernel
theorem dL_law_447 : decode cL_law 447 = .ok (.iconst 1, 1) := by decide +kernel
theorem dL_law_448 : decode cL_law 448 = .ok (.goto 4, 3) := by decide +kernel
theorem dL_law_451 : decode cL_law 451 = .ok (.iconst 0, 1) := by decide +kernel
theorem dL_law_452 : decode cL_law 452 = .ok (.invokevirtual 158, 3) := by decide +kernel
theorem dL_law_455 : decode cL_law 455 = .ok (.istore 7, 2) := by decide +kernel
theorem dL_law_457 : decode cL_law 457 = .ok (.aload_n 2, 1) := by decide +kernel
theorem dL_law_458 : decode cL_law 458 = .ok (.invokevirtual 145, 3) := by decide +kernel
theorem dL_law_461 : decode cL_law 461 = .ok (.iload 6, 2) := by decide +kernel
theorem dL_law_463 : decode cL_law 463 = .ok (.if_icmp .eq 5, 3) := by decide +kernel
theorem dL_law_466 : decode cL_law 466 = .ok (.iconst 0, 1) := by decide +kernel
theorem dL_law_467 : decode cL_law 467 = .ok (.ireturn, 1) := by decide +kernel
theorem dL_law_468 : decode cL_law 468 = .ok (.iload 6, 2) := by decide +kernel
theorem dL_law_470 : decode cL_law 470 = .ok (.ifCond .ne 15, 3) := by decide +kernel
theorem dL_law_473 : decode cL_law 473 = .ok (.aload_n 3, 1) := by decide +kernel
theorem dL_law_474 : decode cL_law 474 = .ok (.iconst 0, 1) := by decide +kernel
theorem dL_law_475 : decode cL_law 475 = .ok (.laload, 1) := by decide +kernel
theorem dL_law_476 : decode cL_law 476 = .ok (.iload 7, 2) := by decide +kernel
theorem dL_law_478 : decode cL_law 478 = .ok (.i2l, 1) := by decide +kernel
theorem dL_law_479 : decode cL_law 479 = .ok (.lcmp, 1) := by decide +kernel
theorem dL_law_480 : decode cL_law 480 = .ok (.ifCond .eq 5, 3) := by decide +kernel
theorem dL_law_483 : decode cL_law 483 = .ok (.iconst 0, 1) := by decide +kernel
theorem dL_law_484 : decode cL_law 484 = .ok (.ireturn, 1) := by decide +kernel
theorem dL_law_485 : decode cL_law 485 = .ok (.goto 2009, 3) := by decide +kernel
theorem dL_law_488 : decode cL_law 488 = .ok (.aload_n 1, 1) := by decide +kernel
theorem dL_law_489 : decode cL_law 489 = .ok (.aload_n 0, 1) := by decide +kernel
theorem dL_law_490 : decode cL_law 490 = .ok (.iload 5, 2) := by decide +kernel
theorem dL_law_492 : decode cL_law 492 = .ok (.iconst 1, 1) := by decide +kernel
theorem dL_law_493 : decode cL_law 493 = .ok (.iadd, 1) := by decide +kernel
theorem dL_law_494 : decode cL_law 494 = .ok (.iaload, 1) := by decide +kernel
theorem dL_law_495 : decode cL_law 495 = .ok (.aload_n 3, 1) := by decide +kernel
theorem dL_law_496 : decode cL_law 496 = .ok (.invokestatic 159, 3) := by decide +kernel
theorem dL_law_499 : decode cL_law 499 = .ok (.istore 6, 2) := by decide +kernel
theorem dL_law_501 : decode cL_law 501 = .ok (.aload_n 2, 1) := by decide +kernel
theorem dL_law_502 : decode cL_law 502 = .ok (.aload_n 0, 1) := by decide +kernel
theorem dL_law_503 : decode cL_law 503 = .ok (.iload 5, 2) := by decide +kernel
theorem dL_law_505 : decode cL_law 505 = .ok (.iconst 1, 1) := by decide +kernel
theorem dL_law_506 : decode cL_law 506 = .ok (.iadd, 1) := by decide +kernel
theorem dL_law_507 : decode cL_law 507 = .ok (.iaload, 1) := by decide +kernel
theorem dL_law_508 : decode cL_law 508 = .ok (.invokevirtual 161, 3) := by decide +kernel
theorem dL_law_511 : decode cL_law 511 = .ok (.istore 7, 2) := by decide +kernel
theorem dL_law_513 : decode cL_law 513 = .ok (.aload_n 2, 1) := by decide +kernel
theorem dL_law_514 : decode cL_law 514 = .ok (.invokevirtual 145, 3) := by decide +kernel
theorem dL_law_517 : decode cL_law 517 = .ok (.iload 6, 2) := by decide +kernel
theorem dL_law_519 : decode cL_law 519 = .ok (.if_icmp .eq 5, 3) := by decide +kernel
theorem dL_law_522 : decode cL_law 522 = .ok (.iconst 0, 1) := by decide +kernel
theorem dL_law_523 : decode cL_law 523 = .ok (.ireturn, 1) := by decide +kernel
theorem dL_law_524 : decode cL_law 524 = .ok (.iload 6, 2) := by decide +kernel
theorem dL_law_526 : decode cL_law 526 = .ok (.ifCond .ne 15, 3) := by decide +kernel
theorem dL_law_529 : decode cL_law 529 = .ok (.aload_n 3, 1) := by decide +kernel
theorem dL_law_530 : decode cL_law 530 = .ok (.iconst 0, 1) := by decide +kernel
theorem dL_law_531 : decode cL_law 531 = .ok (.laload, 1) := by decide +kernel
theorem dL_law_532 : decode cL_law 532 = .ok (.iload 7, 2) := by decide +kernel
theorem dL_law_534 : decode cL_law 534 = .ok (.i2l, 1) := by decide +kernel
theorem dL_law_535 : decode cL_law 535 = .ok (.lcmp, 1) := by decide +kernel
theorem dL_law_536 : decode cL_law 536 = .ok (.ifCond .eq 5, 3) := by decide +kernel
theorem dL_law_539 : decode cL_law 539 = .ok (.iconst 0, 1) := by decide +kernel
theorem dL_law_540 : decode cL_law 540 = .ok (.ireturn, 1) := by decide +kernel
theorem dL_law_541 : decode cL_law 541 = .ok (.goto 1953, 3) := by decide +kernel
theorem dL_law_544 : decode cL_law 544 = .ok (.aload_n 1, 1) := by decide +kernel
theorem dL_law_545 : decode cL_law 545 = .ok (.aload_n 0, 1) := by decide +kernel
theorem dL_law_546 : decode cL_law 546 = .ok (.iload 5, 2) := by decide +kernel
theorem dL_law_548 : decode cL_law 548 = .ok (.iconst 1, 1) := by decide +kernel
theorem dL_law_549 : decode cL_law 549 = .ok (.iadd, 1) := by decide +kernel
theorem dL_law_550 : decode cL_law 550 = .ok (.iaload, 1) := by decide +kernel
theorem dL_law_551 : decode cL_law 551 = .ok (.aload_n 0, 1) := by decide +kernel
theorem dL_law_552 : decode cL_law 552 = .ok (.iload 5, 2) := by decide +kernel
theorem dL_law_554 : decode cL_law 554 = .ok (.iconst 2, 1) := by decide +kernel
theorem dL_law_555 : decode cL_law 555 = .ok (.iadd, 1) := by decide +kernel
theorem dL_law_556 : decode cL_law 556 = .ok (.iaload, 1) := by decide +kernel
theorem dL_law_557 : decode cL_law 557 = .ok (.aload_n 3, 1) := by decide +kernel
theorem dL_law_558 : decode cL_law 558 = .ok (.invokestatic 162, 3) := by decide +kernel
theorem dL_law_561 : decode cL_law 561 = .ok (.istore 6, 2) := by decide +kernel
theorem dL_law_563 : decode cL_law 563 = .ok (.aload_n 2, 1) := by decide +kernel
theorem dL_law_564 : decode cL_law 564 = .ok (.aload_n 0, 1) := by decide +kernel
theorem dL_law_565 : decode cL_law 565 = .ok (.iload 5, 2) := by decide +kernel
theorem dL_law_567 : decode cL_law 567 = .ok (.iconst 1, 1) := by decide +kernel
theorem dL_law_568 : decode cL_law 568 = .ok (.iadd, 1) := by decide +kernel
theorem dL_law_569 : decode cL_law 569 = .ok (.iaload, 1) := by decide +kernel
theorem dL_law_570 : decode cL_law 570 = .ok (.aload_n 0, 1) := by decide +kernel
theorem dL_law_571 : decode cL_law 571 = .ok (.iload 5, 2) := by decide +kernel
theorem dL_law_573 : decode cL_law 573 = .ok (.iconst 2, 1) := by decide +kernel
theorem dL_law_574 : decode cL_law 574 = .ok (.iadd, 1) := by decide +kernel
theorem dL_law_575 : decode cL_law 575 = .ok (.iaload, 1) := by decide +kernel
theorem dL_law_576 : decode cL_law 576 = .ok (.invokevirtual 164, 3) := by decide +kernel
theorem dL_law_579 : decode cL_law 579 = .ok (.istore 7, 2) := by decide +kernel
theorem dL_law_581 : decode cL_law 581 = .ok (.aload_n 2, 1) := by decide +kernel
theorem dL_law_582 : decode cL_law 582 = .ok (.invokevirtual 145, 3) := by decide +kernel
theorem dL_law_585 : decode cL_law 585 = .ok (.iload 6, 2) := by decide +kernel
theorem dL_law_587 : decode cL_law 587 = .ok (.if_icmp .eq 5, 3) := by decide +kernel
theorem dL_law_590 : decode cL_law 590 = .ok (.iconst 0, 1) := by decide +kernel
theorem dL_law_591 : decode cL_law 591 = .ok (.ireturn, 1) := by decide +kernel
theorem dL_law_592 : decode cL_law 592 = .ok (.iload 6, 2) := by decide +kernel
theorem dL_law_594 : decode cL_law 594 = .ok (.ifCond .ne 15, 3) := by decide +kernel
theorem dL_law_597 : decode cL_law 597 = .ok (.aload_n 3, 1) := by decide +kernel
theorem dL_law_598 : decode cL_law 598 = .ok (.iconst 0, 1) := by decide +kernel
theorem dL_law_599 : decode cL_law 599 = .ok (.laload, 1) := by decide +kernel
theorem dL_law_600 : decode cL_law 600 = .ok (.iload 7, 2) := by decide +kernel
theorem dL_law_602 : decode cL_law 602 = .ok (.i2l, 1) := by decide +kernel
theorem dL_law_603 : decode cL_law 603 = .ok (.lcmp, 1) := by decide +kernel
theorem dL_law_604 : decode cL_law 604 = .ok (.ifCond .eq 5, 3) := by decide +kernel
theorem dL_law_607 : decode cL_law 607 = .ok (.iconst 0, 1) := by decide +kernel
theorem dL_law_608 : decode cL_law 608 = .ok (.ireturn, 1) := by decide +kernel
theorem dL_law_609 : decode cL_law 609 = .ok (.goto 1885, 3) := by decide +kernel
theorem dL_law_612 : decode cL_law 612 = .ok (.aload_n 1, 1) := by decide +kernel
theorem dL_law_613 : decode cL_law 613 = .ok (.aload_n 0, 1) := by decide +kernel
theorem dL_law_614 : decode cL_law 614 = .ok (.iload 5, 2) := by decide +kernel
theorem dL_law_616 : decode cL_law 616 = .ok (.iconst 1, 1) := by decide +kernel
theorem dL_law_617 : decode cL_law 617 = .ok (.iadd, 1) := by decide +kernel
theorem dL_law_618 : decode cL_law 618 = .ok (.iaload, 1) := by decide +kernel
theorem dL_law_619 : decode cL_law 619 = .ok (.aload_n 0, 1) := by decide +kernel
theorem dL_law_620 : decode cL_law 620 = .ok (.iload 5, 2) := by decide +kernel
theorem dL_law_622 : decode cL_law 622 = .ok (.iconst 2, 1) := by decide +kernel
theorem dL_law_623 : decode cL_law 623 = .ok (.iadd, 1) := by decide +kernel
theorem dL_law_624 : decode cL_law 624 = .ok (.iaload, 1) := by decide +kernel
theorem dL_law_625 : decode cL_law 625 = .ok (.aload_n 3, 1) := by decide +kernel
theorem dL_law_626 : decode cL_law 626 = .ok (.invokestatic 165, 3) := by decide +kernel
theorem dL_law_629 : decode cL_law 629 = .ok (.istore 6, 2) := by decide +kernel
theorem dL_law_631 : decode cL_law 631 = .ok (.aload_n 2, 1) := by decide +kernel
theorem dL_law_632 : decode cL_law 632 = .ok (.aload_n 0, 1) := by decide +kernel
theorem dL_law_633 : decode cL_law 633 = .ok (.iload 5, 2) := by decide +kernel
theorem dL_law_635 : decode cL_law 635 = .ok (.iconst 1, 1) := by decide +kernel
theorem dL_law_636 : decode cL_law 636 = .ok (.iadd, 1) := by decide +kernel
theorem dL_law_637 : decode cL_law 637 = .ok (.iaload, 1) := by decide +kernel
theorem dL_law_638 : decode cL_law 638 = .ok (.aload_n 0, 1) := by decide +kernel
theorem dL_law_639 : decode cL_law 639 = .ok (.iload 5, 2) := by decide +kernel
theorem dL_law_641 : decode cL_law 641 = .ok (.iconst 2, 1) := by decide +kernel
theorem dL_law_642 : decode cL_law 642 = .ok (.iadd, 1) := by decide +kernel
theorem dL_law_643 : decode cL_law 643 = .ok (.iaload, 1) := by decide +kernel
theorem dL_law_644 : decode cL_law 644 = .ok (.invokevirtual 167, 3) := by decide +kernel
theorem dL_law_647 : decode cL_law 647 = .ok (.istore 7, 2) := by decide +kernel
theorem dL_law_649 : decode cL_law 649 = .ok (.aload_n 2, 1) := by decide +kernel
theorem dL_law_650 : decode cL_law 650 = .ok (.invokevirtual 145, 3) := by decide +kernel
theorem dL_law_653 : decode cL_law 653 = .ok (.iload 6, 2) := by decide +kernel
theorem dL_law_655 : decode cL_law 655 = .ok (.if_icmp .eq 5, 3) := by decide +kernel
theorem dL_law_658 : decode cL_law 658 = .ok (.iconst 0, 1) := by decide +kernel
theorem dL_law_659 : decode cL_law 659 = .ok (.ireturn, 1) := by decide +kernel
theorem dL_law_660 : decode cL_law 660 = .ok (.iload 6, 2) := by decide +kernel
theorem dL_law_662 : decode cL_law 662 = .ok (.ifCond .ne 15, 3) := by decide +kernel
theorem dL_law_665 : decode cL_law 665 = .ok (.aload_n 3, 1) := by decide +kernel
theorem dL_law_666 : decode cL_law 666 = .ok (.iconst 0, 1) := by decide +kernel
theorem dL_law_667 : decode cL_law 667 = .ok (.laload, 1) := by decide +kernel
theorem dL_law_668 : decode cL_law 668 = .ok (.iload 7, 2) := by decide +kernel
theorem dL_law_670 : decode cL_law 670 = .ok (.i2l, 1) := by decide +kernel
theorem dL_law_671 : decode cL_law 671 = .ok (.lcmp, 1) := by decide +kernel
theorem dL_law_672 : decode cL_law 672 = .ok (.ifCond .eq 5, 3) := by decide +kernel
theorem dL_law_675 : decode cL_law 675 = .ok (.iconst 0, 1) := by decide +kernel
theorem dL_law_676 : decode cL_law 676 = .ok (.ireturn, 1) := by decide +kernel
theorem dL_law_677 : decode cL_law 677 = .ok (.goto 1817, 3) := by decide +kernel
theorem dL_law_680 : decode cL_law 680 = .ok (.aload_n 1, 1) := by decide +kernel
theorem dL_law_681 : decode cL_law 681 = .ok (.aload_n 0, 1) := by decide +kernel
theorem dL_law_682 : decode cL_law 682 = .ok (.iload 5, 2) := by decide +kernel
theorem dL_law_684 : decode cL_law 684 = .ok (.iconst 1, 1) := by decide +kernel
theorem dL_law_685 : decode cL_law 685 = .ok (.iadd, 1) := by decide +kernel
theorem dL_law_686 : decode cL_law 686 = .ok (.iaload, 1) := by decide +kernel
theorem dL_law_687 : decode cL_law 687 = .ok (.aload_n 0, 1) := by decide +kernel
theorem dL_law_688 : decode cL_law 688 = .ok (.iload 5, 2) := by decide +kernel
theorem dL_law_690 : decode cL_law 690 = .ok (.iconst 2, 1) := by decide +kernel
theorem dL_law_691 : decode cL_law 691 = .ok (.iadd, 1) := by decide +kernel
theorem dL_law_692 : decode cL_law 692 = .ok (.iaload, 1) := by decide +kernel
theorem dL_law_693 : decode cL_law 693 = .ok (.aload_n 0, 1) := by decide +kernel
theorem dL_law_694 : decode cL_law 694 = .ok (.iload 5, 2) := by decide +kernel
theorem dL_law_696 : decode cL_law 696 = .ok (.iconst 3, 1) := by decide +kernel
theorem dL_law_697 : decode cL_law 697 = .ok (.iadd, 1) := by decide +kernel
theorem dL_law_698 : decode cL_law 698 = .ok (.iaload, 1) := by decide +kernel
theorem dL_law_699 : decode cL_law 699 = .ok (.ifCond .eq 7, 3) := by decide +kernel
theorem dL_law_702 : decode cL_law 702 = .ok (.iconst 1, 1) := by decide +kernel
theorem dL_law_703 : decode cL_law 703 = .ok (.goto 4, 3) := by decide +kernel
theorem dL_law_706 : decode cL_law 706 = .ok (.iconst 0, 1) := by decide +kernel
theorem dL_law_707 : decode cL_law 707 = .ok (.aload 4, 2) := by decide +kernel
theorem dL_law_709 : decode cL_law 709 = .ok (.invokestatic 168, 3) := by decide +kernel
theorem dL_law_712 : decode cL_law 712 = .ok (.istore 6, 2) := by decide +kernel
theorem dL_law_714 : decode cL_law 714 = .ok (.aload_n 2, 1) := by decide +kernel
theorem dL_law_715 : decode cL_law 715 = .ok (.aload_n 0, 1) := by decide +kernel
theorem dL_law_716 : decode cL_law 716 = .ok (.iload 5, 2) := by decide +kernel
theorem dL_law_718 : decode cL_law 718 = .ok (.iconst 1, 1) := by decide +kernel
theorem dL_law_719 : decode cL_law 719 = .ok (.iadd, 1) := by decide +kernel
theorem dL_law_720 : decode cL_law 720 = .ok (.iaload, 1) := by decide +kernel
theorem dL_law_721 : decode cL_law 721 = .ok (.aload_n 0, 1) := by decide +kernel
theorem dL_law_722 : decode cL_law 722 = .ok (.iload 5, 2) := by decide +kernel
theorem dL_law_724 : decode cL_law 724 = .ok (.iconst 2, 1) := by decide +kernel
theorem dL_law_725 : decode cL_law 725 = .ok (.iadd, 1) := by decide +kernel
theorem dL_law_726 : decode cL_law 726 = .ok (.iaload, 1) := by decide +kernel
theorem dL_law_727 : decode cL_law 727 = .ok (.aload_n 0, 1) := by decide +kernel
theorem dL_law_728 : decode cL_law 728 = .ok (.iload 5, 2) := by decide +kernel
theorem dL_law_730 : decode cL_law 730 = .ok (.iconst 3, 1) := by decide +kernel
theorem dL_law_731 : decode cL_law 731 = .ok (.iadd, 1) := by decide +kernel
theorem dL_law_732 : decode cL_law 732 = .ok (.iaload, 1) := by decide +kernel
theorem dL_law_733 : decode cL_law 733 = .ok (.ifCond .eq 7, 3) := by decide +kernel
theorem dL_law_736 : decode cL_law 736 = .ok (.iconst 1, 1) := by decide +kernel
theorem dL_law_737 : decode cL_law 737 = .ok (.goto 4, 3) := by decide +kernel
theorem dL_law_740 : decode cL_law 740 = .ok (.iconst 0, 1) := by decide +kernel
theorem dL_law_741 : decode cL_law 741 = .ok (.invokevirtual 171, 3) := by decide +kernel
theorem dL_law_744 : decode cL_law 744 = .ok (.fstore 7, 2) := by decide +kernel
theorem dL_law_746 : decode cL_law 746 = .ok (.aload_n 2, 1) := by decide +kernel
theorem dL_law_747 : decode cL_law 747 = .ok (.invokevirtual 145, 3) := by decide +kernel
theorem dL_law_750 : decode cL_law 750 = .ok (.iload 6, 2) := by decide +kernel
theorem dL_law_752 : decode cL_law 752 = .ok (.if_icmp .eq 5, 3) := by decide +kernel
theorem dL_law_755 : decode cL_law 755 = .ok (.iconst 0, 1) := by decide +kernel
theorem dL_law_756 : decode cL_law 756 = .ok (.ireturn, 1) := by decide +kernel
theorem dL_law_757 : decode cL_law 757 = .ok (.iload 6, 2) := by decide +kernel
theorem dL_law_759 : decode cL_law 759 = .ok (.ifCond .ne 36, 3) := by decide +kernel
theorem dL_law_762 : decode cL_law 762 = .ok (.aload 4, 2) := by decide +kernel
theorem dL_law_764 : decode cL_law 764 = .ok (.iconst 0, 1) := by decide +kernel
theorem dL_law_765 : decode cL_law 765 = .ok (.daload, 1) := by decide +kernel
theorem dL_law_766 : decode cL_law 766 = .ok (.fload 7, 2) := by decide +kernel
theorem dL_law_768 : decode cL_law 768 = .ok (.f2d, 1) := by decide +kernel
theorem dL_law_769 : decode cL_law 769 = .ok (.dcmp .l, 1) := by decide +kernel
theorem dL_law_770 : decode cL_law 770 = .ok (.ifCond .eq 25, 3) := by decide +kernel
theorem dL_law_773 : decode cL_law 773 = .ok (.aload 4, 2) := by decide +kernel
theorem dL_law_775 : decode cL_law 775 = .ok (.iconst 0, 1) := by decide +kernel
theorem dL_law_776 : decode cL_law 776 = .ok (.daload, 1) := by decide +kernel
theorem dL_law_777 : decode cL_law 777 = .ok (.aload 4, 2) := by decide +kernel
theorem dL_law_779 : decode cL_law 779 = .ok (.iconst 0, 1) := by decide +kernel
theorem dL_law_780 : decode cL_law 780 = .ok (.daload, 1) := by decide +kernel
theorem dL_law_781 : decode cL_law 781 = .ok (.dcmp .l, 1) := by decide +kernel
theorem dL_law_782 : decode cL_law 782 = .ok (.ifCond .eq 11, 3) := by decide +kernel
theorem dL_law_785 : decode cL_law 785 = .ok (.fload 7, 2) := by decide +kernel
theorem dL_law_787 : decode cL_law 787 = .ok (.fload 7, 2) := by decide +kernel
theorem dL_law_789 : decode cL_law 789 = .ok (.fcmp .l, 1) := by decide +kernel
theorem dL_law_790 : decode cL_law 790 = .ok (.ifCond .ne 5, 3) := by decide +kernel
theorem dL_law_793 : decode cL_law 793 = .ok (.iconst 0, 1) := by decide +kernel
theorem dL_law_794 : decode cL_law 794 = .ok (.ireturn, 1) := by decide +kernel
theorem dL_law_795 : decode cL_law 795 = .ok (.goto 1699, 3) := by decide +kernel
theorem dL_law_798 : decode cL_law 798 = .ok (.aload_n 1, 1) := by decide +kernel
theorem dL_law_799 : decode cL_law 799 = .ok (.aload_n 0, 1) := by decide +kernel
theorem dL_law_800 : decode cL_law 800 = .ok (.iload 5, 2) := by decide +kernel
theorem dL_law_802 : decode cL_law 802 = .ok (.iconst 1, 1) := by decide +kernel
theorem dL_law_803 : decode cL_law 803 = .ok (.iadd, 1) := by decide +kernel
theorem dL_law_804 : decode cL_law 804 = .ok (.iaload, 1) := by decide +kernel
theorem dL_law_805 : decode cL_law 805 = .ok (.aload_n 0, 1) := by decide +kernel
theorem dL_law_806 : decode cL_law 806 = .ok (.iload 5, 2) := by decide +kernel
theorem dL_law_808 : decode cL_law 808 = .ok (.iconst 2, 1) := by decide +kernel
theorem dL_law_809 : decode cL_law 809 = .ok (.iadd, 1) := by decide +kernel
theorem dL_law_810 : decode cL_law 810 = .ok (.iaload, 1) := by decide +kernel
theorem dL_law_811 : decode cL_law 811 = .ok (.aload_n 3, 1) := by decide +kernel
theorem dL_law_812 : decode cL_law 812 = .ok (.invokestatic 172, 3) := by decide +kernel
theorem dL_law_815 : decode cL_law 815 = .ok (.istore 6, 2) := by decide +kernel
theorem dL_law_817 : decode cL_law 817 = .ok (.aload_n 2, 1) := by decide +kernel
theorem dL_law_818 : decode cL_law 818 = .ok (.aload_n 0, 1) := by decide +kernel
theorem dL_law_819 : decode cL_law 819 = .ok (.iload 5, 2) := by decide +kernel
theorem dL_law_821 : decode cL_law 821 = .ok (.iconst 1, 1) := by decide +kernel
theorem dL_law_822 : decode cL_law 822 = .ok (.iadd, 1) := by decide +kernel
theorem dL_law_823 : decode cL_law 823 = .ok (.iaload, 1) := by decide +kernel
theorem dL_law_824 : decode cL_law 824 = .ok (.aload_n 0, 1) := by decide +kernel
theorem dL_law_825 : decode cL_law 825 = .ok (.iload 5, 2) := by decide +kernel
theorem dL_law_827 : decode cL_law 827 = .ok (.iconst 2, 1) := by decide +kernel
theorem dL_law_828 : decode cL_law 828 = .ok (.iadd, 1) := by decide +kernel
theorem dL_law_829 : decode cL_law 829 = .ok (.iaload, 1) := by decide +kernel
theorem dL_law_830 : decode cL_law 830 = .ok (.invokevirtual 174, 3) := by decide +kernel
theorem dL_law_833 : decode cL_law 833 = .ok (.istore 7, 2) := by decide +kernel
theorem dL_law_835 : decode cL_law 835 = .ok (.aload_n 2, 1) := by decide +kernel
theorem dL_law_836 : decode cL_law 836 = .ok (.invokevirtual 145, 3) := by decide +kernel
theorem dL_law_839 : decode cL_law 839 = .ok (.iload 6, 2) := by decide +kernel
theorem dL_law_841 : decode cL_law 841 = .ok (.if_icmp .eq 5, 3) := by decide +kernel
theorem dL_law_844 : decode cL_law 844 = .ok (.iconst 0, 1) := by decide +kernel
theorem dL_law_845 : decode cL_law 845 = .ok (.ireturn, 1) := by decide +kernel
theorem dL_law_846 : decode cL_law 846 = .ok (.iload 6, 2) := by decide +kernel
theorem dL_law_848 : decode cL_law 848 = .ok (.ifCond .ne 22, 3) := by decide +kernel
theorem dL_law_851 : decode cL_law 851 = .ok (.aload_n 3, 1) := by decide +kernel
theorem dL_law_852 : decode cL_law 852 = .ok (.iconst 0, 1) := by decide +kernel
theorem dL_law_853 : decode cL_law 853 = .ok (.laload, 1) := by decide +kernel
theorem dL_law_854 : decode cL_law 854 = .ok (.iload 7, 2) := by decide +kernel
theorem dL_law_856 : decode cL_law 856 = .ok (.ifCond .eq 7, 3) := by decide +kernel
theorem dL_law_859 : decode cL_law 859 = .ok (.lconst 1, 1) := by decide +kernel
theorem dL_law_860 : decode cL_law 860 = .ok (.goto 4, 3) := by decide +kernel
theorem dL_law_863 : decode cL_law 863 = .ok (.lconst 0, 1) := by decide +kernel
theorem dL_law_864 : decode cL_law 864 = .ok (.lcmp, 1) := by decide +kernel
theorem dL_law_865 : decode cL_law 865 = .ok (.ifCond .eq 5, 3) := by decide +kernel
theorem dL_law_868 : decode cL_law 868 = .ok (.iconst 0, 1) := by decide +kernel
theorem dL_law_869 : decode cL_law 869 = .ok (.ireturn, 1) := by decide +kernel
theorem dL_law_870 : decode cL_law 870 = .ok (.goto 1624, 3) := by decide +kernel
theorem dL_law_873 : decode cL_law 873 = .ok (.aload_n 1, 1) := by decide +kernel
theorem dL_law_874 : decode cL_law 874 = .ok (.aload_n 0, 1) := by decide +kernel
theorem dL_law_875 : decode cL_law 875 = .ok (.iload 5, 2) := by decide +kernel
theorem dL_law_877 : decode cL_law 877 = .ok (.iconst 1, 1) := by decide +kernel
theorem dL_law_878 : decode cL_law 878 = .ok (.iadd, 1) := by decide +kernel
theorem dL_law_879 : decode cL_law 879 = .ok (.iaload, 1) := by decide +kernel
theorem dL_law_880 : decode cL_law 880 = .ok (.aload_n 0, 1) := by decide +kernel
theorem dL_law_881 : decode cL_law 881 = .ok (.iload 5, 2) := by decide +kernel
theorem dL_law_883 : decode cL_law 883 = .ok (.iconst 2, 1) := by decide +kernel
theorem dL_law_884 : decode cL_law 884 = .ok (.iadd, 1) := by decide +kernel
theorem dL_law_885 : decode cL_law 885 = .ok (.iaload, 1) := by decide +kernel
theorem dL_law_886 : decode cL_law 886 = .ok (.aload_n 3, 1) := by decide +kernel
theorem dL_law_887 : decode cL_law 887 = .ok (.invokestatic 175, 3) := by decide +kernel
theorem dL_law_890 : decode cL_law 890 = .ok (.istore 6, 2) := by decide +kernel
theorem dL_law_892 : decode cL_law 892 = .ok (.aload_n 2, 1) := by decide +kernel
theorem dL_law_893 : decode cL_law 893 = .ok (.aload_n 0, 1) := by decide +kernel
theorem dL_law_894 : decode cL_law 894 = .ok (.iload 5, 2) := by decide +kernel
theorem dL_law_896 : decode cL_law 896 = .ok (.iconst 1, 1) := by decide +kernel
theorem dL_law_897 : decode cL_law 897 = .ok (.iadd, 1) := by decide +kernel
theorem dL_law_898 : decode cL_law 898 = .ok (.iaload, 1) := by decide +kernel
theorem dL_law_899 : decode cL_law 899 = .ok (.aload_n 0, 1) := by decide +kernel
theorem dL_law_900 : decode cL_law 900 = .ok (.iload 5, 2) := by decide +kernel
theorem dL_law_902 : decode cL_law 902 = .ok (.iconst 2, 1) := by decide +kernel
theorem dL_law_903 : decode cL_law 903 = .ok (.iadd, 1) := by decide +kernel
theorem dL_law_904 : decode cL_law 904 = .ok (.iaload, 1) := by decide +kernel
theorem dL_law_905 : decode cL_law 905 = .ok (.invokevirtual 177, 3) := by decide +kernel
theorem dL_law_908 : decode cL_law 908 = .ok (.istore 7, 2) := by decide +kernel
theorem dL_law_910 : decode cL_law 910 = .ok (.aload_n 2, 1) := by decide +kernel
theorem dL_law_911 : decode cL_law 911 = .ok (.invokevirtual 145, 3) := by decide +kernel
theorem dL_law_914 : decode cL_law 914 = .ok (.iload 6, 2) := by decide +kernel
theorem dL_law_916 : decode cL_law 916 = .ok (.if_icmp .eq 5, 3) := by decide +kernel
theorem dL_law_919 : decode cL_law 919 = .ok (.iconst 0, 1) := by decide +kernel
theorem dL_law_920 : decode cL_law 920 = .ok (.ireturn, 1) := by decide +kernel
theorem dL_law_921 : decode cL_law 921 = .ok (.iload 6, 2) := by decide +kernel
theorem dL_law_923 : decode cL_law 923 = .ok (.ifCond .ne 15, 3) := by decide +kernel
theorem dL_law_926 : decode cL_law 926 = .ok (.aload_n 3, 1) := by decide +kernel
theorem dL_law_927 : decode cL_law 927 = .ok (.iconst 0, 1) := by decide +kernel
theorem dL_law_928 : decode cL_law 928 = .ok (.laload, 1) := by decide +kernel
theorem dL_law_929 : decode cL_law 929 = .ok (.iload 7, 2) := by decide +kernel
theorem dL_law_931 : decode cL_law 931 = .ok (.i2l, 1) := by decide +kernel
theorem dL_law_932 : decode cL_law 932 = .ok (.lcmp, 1) := by decide +kernel
theorem dL_law_933 : decode cL_law 933 = .ok (.ifCond .eq 5, 3) := by decide +kernel
theorem dL_law_936 : decode cL_law 936 = .ok (.iconst 0, 1) := by decide +kernel
theorem dL_law_937 : decode cL_law 937 = .ok (.ireturn, 1) := by decide +kernel
theorem dL_law_938 : decode cL_law 938 = .ok (.goto 1556, 3) := by decide +kernel
theorem dL_law_941 : decode cL_law 941 = .ok (.aload_n 1, 1) := by decide +kernel
theorem dL_law_942 : decode cL_law 942 = .ok (.aload_n 0, 1) := by decide +kernel
theorem dL_law_943 : decode cL_law 943 = .ok (.iload 5, 2) := by decide +kernel
theorem dL_law_945 : decode cL_law 945 = .ok (.iconst 1, 1) := by decide +kernel
theorem dL_law_946 : decode cL_law 946 = .ok (.iadd, 1) := by decide +kernel
theorem dL_law_947 : decode cL_law 947 = .ok (.iaload, 1) := by decide +kernel
theorem dL_law_948 : decode cL_law 948 = .ok (.aload_n 0, 1) := by decide +kernel
theorem dL_law_949 : decode cL_law 949 = .ok (.iload 5, 2) := by decide +kernel
theorem dL_law_951 : decode cL_law 951 = .ok (.iconst 2, 1) := by decide +kernel
theorem dL_law_952 : decode cL_law 952 = .ok (.iadd, 1) := by decide +kernel
theorem dL_law_953 : decode cL_law 953 = .ok (.iaload, 1) := by decide +kernel
theorem dL_law_954 : decode cL_law 954 = .ok (.aload_n 3, 1) := by decide +kernel
theorem dL_law_955 : decode cL_law 955 = .ok (.invokestatic 178, 3) := by decide +kernel
theorem dL_law_958 : decode cL_law 958 = .ok (.istore 6, 2) := by decide +kernel
theorem dL_law_960 : decode cL_law 960 = .ok (.aload_n 2, 1) := by decide +kernel
theorem dL_law_961 : decode cL_law 961 = .ok (.aload_n 0, 1) := by decide +kernel
theorem dL_law_962 : decode cL_law 962 = .ok (.iload 5, 2) := by decide +kernel
theorem dL_law_964 : decode cL_law 964 = .ok (.iconst 1, 1) := by decide +kernel
theorem dL_law_965 : decode cL_law 965 = .ok (.iadd, 1) := by decide +kernel
theorem dL_law_966 : decode cL_law 966 = .ok (.iaload, 1) := by decide +kernel
theorem dL_law_967 : decode cL_law 967 = .ok (.aload_n 0, 1) := by decide +kernel
theorem dL_law_968 : decode cL_law 968 = .ok (.iload 5, 2) := by decide +kernel
theorem dL_law_970 : decode cL_law 970 = .ok (.iconst 2, 1) := by decide +kernel
theorem dL_law_971 : decode cL_law 971 = .ok (.iadd, 1) := by decide +kernel
theorem dL_law_972 : decode cL_law 972 = .ok (.iaload, 1) := by decide +kernel
theorem dL_law_973 : decode cL_law 973 = .ok (.invokevirtual 180, 3) := by decide +kernel
theorem dL_law_976 : decode cL_law 976 = .ok (.istore 7, 2) := by decide +kernel
theorem dL_law_978 : decode cL_law 978 = .ok (.aload_n 2, 1) := by decide +kernel
theorem dL_law_979 : decode cL_law 979 = .ok (.invokevirtual 145, 3) := by decide +kernel
theorem dL_law_982 : decode cL_law 982 = .ok (.iload 6, 2) := by decide +kernel
theorem dL_law_984 : decode cL_law 984 = .ok (.if_icmp .eq 5, 3) := by decide +kernel
theorem dL_law_987 : decode cL_law 987 = .ok (.iconst 0, 1) := by decide +kernel
theorem dL_law_988 : decode cL_law 988 = .ok (.ireturn, 1) := by decide +kernel
theorem dL_law_989 : decode cL_law 989 = .ok (.iload 6, 2) := by decide +kernel
theorem dL_law_991 : decode cL_law 991 = .ok (.ifCond .ne 15, 3) := by decide +kernel
theorem dL_law_994 : decode cL_law 994 = .ok (.aload_n 3, 1) := by decide +kernel
theorem dL_law_995 : decode cL_law 995 = .ok (.iconst 0, 1) := by decide +kernel
theorem dL_law_996 : decode cL_law 996 = .ok (.laload, 1) := by decide +kernel
theorem dL_law_997 : decode cL_law 997 = .ok (.iload 7, 2) := by decide +kernel
theorem dL_law_999 : decode cL_law 999 = .ok (.i2l, 1) := by decide +kernel
theorem dL_law_1000 : decode cL_law 1000 = .ok (.lcmp, 1) := by decide +kernel
theorem dL_law_1001 : decode cL_law 1001 = .ok (.ifCond .eq 5, 3) := by decide +kernel
theorem dL_law_1004 : decode cL_law 1004 = .ok (.iconst 0, 1) := by decide +kernel
theorem dL_law_1005 : decode cL_law 1005 = .ok (.ireturn, 1) := by decide +kernel
theorem dL_law_1006 : decode cL_law 1006 = .ok (.goto 1488, 3) := by decide +kernel
theorem dL_law_1009 : decode cL_law 1009 = .ok (.aload_n 1, 1) := by decide +kernel
theorem dL_law_1010 : decode cL_law 1010 = .ok (.aload_n 0, 1) := by decide +kernel
theorem dL_law_1011 : decode cL_law 1011 = .ok (.iload 5, 2) := by decide +kernel
theorem dL_law_1013 : decode cL_law 1013 = .ok (.iconst 1, 1) := by decide +kernel
theorem dL_law_1014 : decode cL_law 1014 = .ok (.iadd, 1) := by decide +kernel
theorem dL_law_1015 : decode cL_law 1015 = .ok (.iaload, 1) := by decide +kernel
theorem dL_law_1016 : decode cL_law 1016 = .ok (.aload_n 0, 1) := by decide +kernel
theorem dL_law_1017 : decode cL_law 1017 = .ok (.iload 5, 2) := by decide +kernel
theorem dL_law_1019 : decode cL_law 1019 = .ok (.iconst 2, 1) := by decide +kernel
theorem dL_law_1020 : decode cL_law 1020 = .ok (.iadd, 1) := by decide +kernel
theorem dL_law_1021 : decode cL_law 1021 = .ok (.iaload, 1) := by decide +kernel
theorem dL_law_1022 : decode cL_law 1022 = .ok (.aload 4, 2) := by decide +kernel
theorem dL_law_1024 : decode cL_law 1024 = .ok (.invokestatic 181, 3) := by decide +kernel
theorem dL_law_1027 : decode cL_law 1027 = .ok (.istore 6, 2) := by decide +kernel
theorem dL_law_1029 : decode cL_law 1029 = .ok (.aload_n 2, 1) := by decide +kernel
theorem dL_law_1030 : decode cL_law 1030 = .ok (.aload_n 0, 1) := by decide +kernel
theorem dL_law_1031 : decode cL_law 1031 = .ok (.iload 5, 2) := by decide +kernel
theorem dL_law_1033 : decode cL_law 1033 = .ok (.iconst 1, 1) := by decide +kernel
theorem dL_law_1034 : decode cL_law 1034 = .ok (.iadd, 1) := by decide +kernel
theorem dL_law_1035 : decode cL_law 1035 = .ok (.iaload, 1) := by decide +kernel
theorem dL_law_1036 : decode cL_law 1036 = .ok (.aload_n 0, 1) := by decide +kernel
theorem dL_law_1037 : decode cL_law 1037 = .ok (.iload 5, 2) := by decide +kernel
theorem dL_law_1039 : decode cL_law 1039 = .ok (.iconst 2, 1) := by decide +kernel
theorem dL_law_1040 : decode cL_law 1040 = .ok (.iadd, 1) := by decide +kernel
theorem dL_law_1041 : decode cL_law 1041 = .ok (.iaload, 1) := by decide +kernel
theorem dL_law_1042 : decode cL_law 1042 = .ok (.invokevirtual 184, 3) := by decide +kernel
theorem dL_law_1045 : decode cL_law 1045 = .ok (.fstore 7, 2) := by decide +kernel
theorem dL_law_1047 : decode cL_law 1047 = .ok (.aload_n 2, 1) := by decide +kernel
theorem dL_law_1048 : decode cL_law 1048 = .ok (.invokevirtual 145, 3) := by decide +kernel
theorem dL_law_1051 : decode cL_law 1051 = .ok (.iload 6, 2) := by decide +kernel
theorem dL_law_1053 : decode cL_law 1053 = .ok (.if_icmp .eq 5, 3) := by decide +kernel
theorem dL_law_1056 : decode cL_law 1056 = .ok (.iconst 0, 1) := by decide +kernel
theorem dL_law_1057 : decode cL_law 1057 = .ok (.ireturn, 1) := by decide +kernel
theorem dL_law_1058 : decode cL_law 1058 = .ok (.iload 6, 2) := by decide +kernel
theorem dL_law_1060 : decode cL_law 1060 = .ok (.ifCond .ne 36, 3) := by decide +kernel
theorem dL_law_1063 : decode cL_law 1063 = .ok (.aload 4, 2) := by decide +kernel
theorem dL_law_1065 : decode cL_law 1065 = .ok (.iconst 0, 1) := by decide +kernel
theorem dL_law_1066 : decode cL_law 1066 = .ok (.daload, 1) := by decide +kernel
theorem dL_law_1067 : decode cL_law 1067 = .ok (.fload 7, 2) := by decide +kernel
theorem dL_law_1069 : decode cL_law 1069 = .ok (.f2d, 1) := by decide +kernel
theorem dL_law_1070 : decode cL_law 1070 = .ok (.dcmp .l, 1) := by decide +kernel
theorem dL_law_1071 : decode cL_law 1071 = .ok (.ifCond .eq 25, 3) := by decide +kernel
theorem dL_law_1074 : decode cL_law 1074 = .ok (.aload 4, 2) := by decide +kernel
theorem dL_law_1076 : decode cL_law 1076 = .ok (.iconst 0, 1) := by decide +kernel
theorem dL_law_1077 : decode cL_law 1077 = .ok (.daload, 1) := by decide +kernel
theorem dL_law_1078 : decode cL_law 1078 = .ok (.aload 4, 2) := by decide +kernel
theorem dL_law_1080 : decode cL_law 1080 = .ok (.iconst 0, 1) := by decide +kernel
theorem dL_law_1081 : decode cL_law 1081 = .ok (.daload, 1) := by decide +kernel
theorem dL_law_1082 : decode cL_law 1082 = .ok (.dcmp .l, 1) := by decide +kernel
theorem dL_law_1083 : decode cL_law 1083 = .ok (.ifCond .eq 11, 3) := by decide +kernel
theorem dL_law_1086 : decode cL_law 1086 = .ok (.fload 7, 2) := by decide +kernel
theorem dL_law_1088 : decode cL_law 1088 = .ok (.fload 7, 2) := by decide +kernel
theorem dL_law_1090 : decode cL_law 1090 = .ok (.fcmp .l, 1) := by decide +kernel
theorem dL_law_1091 : decode cL_law 1091 = .ok (.ifCond .ne 5, 3) := by decide +kernel
theorem dL_law_1094 : decode cL_law 1094 = .ok (.iconst 0, 1) := by decide +kernel
theorem dL_law_1095 : decode cL_law 1095 = .ok (.ireturn, 1) := by decide +kernel
theorem dL_law_1096 : decode cL_law 1096 = .ok (.goto 1398, 3) := by decide +kernel
theorem dL_law_1099 : decode cL_law 1099 = .ok (.aload_n 1, 1) := by decide +kernel
theorem dL_law_1100 : decode cL_law 1100 = .ok (.aload_n 0, 1) := by decide +kernel
theorem dL_law_1101 : decode cL_law 1101 = .ok (.iload 5, 2) := by decide +kernel
theorem dL_law_1103 : decode cL_law 1103 = .ok (.iconst 1, 1) := by decide +kernel
theorem dL_law_1104 : decode cL_law 1104 = .ok (.iadd, 1) := by decide +kernel
theorem dL_law_1105 : decode cL_law 1105 = .ok (.iaload, 1) := by decide +kernel
theorem dL_law_1106 : decode cL_law 1106 = .ok (.aload_n 0, 1) := by decide +kernel
theorem dL_law_1107 : decode cL_law 1107 = .ok (.iload 5, 2) := by decide +kernel
theorem dL_law_1109 : decode cL_law 1109 = .ok (.iconst 2, 1) := by decide +kernel
theorem dL_law_1110 : decode cL_law 1110 = .ok (.iadd, 1) := by decide +kernel
theorem dL_law_1111 : decode cL_law 1111 = .ok (.iaload, 1) := by decide +kernel
theorem dL_law_1112 : decode cL_law 1112 = .ok (.aload_n 3, 1) := by decide +kernel
theorem dL_law_1113 : decode cL_law 1113 = .ok (.invokestatic 185, 3) := by decide +kernel
theorem dL_law_1116 : decode cL_law 1116 = .ok (.istore 6, 2) := by decide +kernel
theorem dL_law_1118 : decode cL_law 1118 = .ok (.aload_n 2, 1) := by decide +kernel
theorem dL_law_1119 : decode cL_law 1119 = .ok (.aload_n 0, 1) := by decide +kernel
theorem dL_law_1120 : decode cL_law 1120 = .ok (.iload 5, 2) := by decide +kernel
theorem dL_law_1122 : decode cL_law 1122 = .ok (.iconst 1, 1) := by decide +kernel
theorem dL_law_1123 : decode cL_law 1123 = .ok (.iadd, 1) := by decide +kernel
theorem dL_law_1124 : decode cL_law 1124 = .ok (.iaload, 1) := by decide +kernel
theorem dL_law_1125 : decode cL_law 1125 = .ok (.aload_n 0, 1) := by decide +kernel
theorem dL_law_1126 : decode cL_law 1126 = .ok (.iload 5, 2) := by decide +kernel
theorem dL_law_1128 : decode cL_law 1128 = .ok (.iconst 2, 1) := by decide +kernel
theorem dL_law_1129 : decode cL_law 1129 = .ok (.iadd, 1) := by decide +kernel
theorem dL_law_1130 : decode cL_law 1130 = .ok (.iaload, 1) := by decide +kernel
theorem dL_law_1131 : decode cL_law 1131 = .ok (.invokevirtual 187, 3) := by decide +kernel
theorem dL_law_1134 : decode cL_law 1134 = .ok (.istore 7, 2) := by decide +kernel
theorem dL_law_1136 : decode cL_law 1136 = .ok (.aload_n 2, 1) := by decide +kernel
theorem dL_law_1137 : decode cL_law 1137 = .ok (.invokevirtual 145, 3) := by decide +kernel
theorem dL_law_1140 : decode cL_law 1140 = .ok (.iload 6, 2) := by decide +kernel
theorem dL_law_1142 : decode cL_law 1142 = .ok (.if_icmp .eq 5, 3) := by decide +kernel
theorem dL_law_1145 : decode cL_law 1145 = .ok (.iconst 0, 1) := by decide +kernel
theorem dL_law_1146 : decode cL_law 1146 = .ok (.ireturn, 1) := by decide +kernel
theorem dL_law_1147 : decode cL_law 1147 = .ok (.iload 6, 2) := by decide +kernel
theorem dL_law_1149 : decode cL_law 1149 = .ok (.ifCond .ne 15, 3) := by decide +kernel
theorem dL_law_1152 : decode cL_law 1152 = .ok (.aload_n 3, 1) := by decide +kernel
theorem dL_law_1153 : decode cL_law 1153 = .ok (.iconst 0, 1) := by decide +kernel
theorem dL_law_1154 : decode cL_law 1154 = .ok (.laload, 1) := by decide +kernel
theorem dL_law_1155 : decode cL_law 1155 = .ok (.iload 7, 2) := by decide +kernel
theorem dL_law_1157 : decode cL_law 1157 = .ok (.i2l, 1) := by decide +kernel
theorem dL_law_1158 : decode cL_law 1158 = .ok (.lcmp, 1) := by decide +kernel
theorem dL_law_1159 : decode cL_law 1159 = .ok (.ifCond .eq 5, 3) := by decide +kernel
theorem dL_law_1162 : decode cL_law 1162 = .ok (.iconst 0, 1) := by decide +kernel
theorem dL_law_1163 : decode cL_law 1163 = .ok (.ireturn, 1) := by decide +kernel
theorem dL_law_1164 : decode cL_law 1164 = .ok (.goto 1330, 3) := by decide +kernel
theorem dL_law_1167 : decode cL_law 1167 = .ok (.aload_n 1, 1) := by decide +kernel
theorem dL_law_1168 : decode cL_law 1168 = .ok (.aload_n 0, 1) := by decide +kernel
theorem dL_law_1169 : decode cL_law 1169 = .ok (.iload 5, 2) := by decide +kernel
theorem dL_law_1171 : decode cL_law 1171 = .ok (.iconst 1, 1) := by decide +kernel
theorem dL_law_1172 : decode cL_law 1172 = .ok (.iadd, 1) := by decide +kernel
theorem dL_law_1173 : decode cL_law 1173 = .ok (.iaload, 1) := by decide +kernel
theorem dL_law_1174 : decode cL_law 1174 = .ok (.aload_n 3, 1) := by decide +kernel
theorem dL_law_1175 : decode cL_law 1175 = .ok (.invokestatic 188, 3) := by decide +kernel
theorem dL_law_1178 : decode cL_law 1178 = .ok (.istore 6, 2) := by decide +kernel
theorem dL_law_1180 : decode cL_law 1180 = .ok (.aload_n 2, 1) := by decide +kernel
theorem dL_law_1181 : decode cL_law 1181 = .ok (.aload_n 0, 1) := by decide +kernel
theorem dL_law_1182 : decode cL_law 1182 = .ok (.iload 5, 2) := by decide +kernel
theorem dL_law_1184 : decode cL_law 1184 = .ok (.iconst 1, 1) := by decide +kernel
theorem dL_law_1185 : decode cL_law 1185 = .ok (.iadd, 1) := by decide +kernel
theorem dL_law_1186 : decode cL_law 1186 = .ok (.iaload, 1) := by decide +kernel
theorem dL_law_1187 : decode cL_law 1187 = .ok (.invokevirtual 190, 3) := by decide +kernel
theorem dL_law_1190 : decode cL_law 1190 = .ok (.istore 7, 2) := by decide +kernel
theorem dL_law_1192 : decode cL_law 1192 = .ok (.aload_n 2, 1) := by decide +kernel
theorem dL_law_1193 : decode cL_law 1193 = .ok (.invokevirtual 145, 3) := by decide +kernel
theorem dL_law_1196 : decode cL_law 1196 = .ok (.iload 6, 2) := by decide +kernel
theorem dL_law_1198 : decode cL_law 1198 = .ok (.if_icmp .eq 5, 3) := by decide +kernel
theorem dL_law_1201 : decode cL_law 1201 = .ok (.iconst 0, 1) := by decide +kernel
theorem dL_law_1202 : decode cL_law 1202 = .ok (.ireturn, 1) := by decide +kernel
theorem dL_law_1203 : decode cL_law 1203 = .ok (.iload 6, 2) := by decide +kernel
theorem dL_law_1205 : decode cL_law 1205 = .ok (.ifCond .ne 15, 3) := by decide +kernel
theorem dL_law_1208 : decode cL_law 1208 = .ok (.aload_n 3, 1) := by decide +kernel
theorem dL_law_1209 : decode cL_law 1209 = .ok (.iconst 0, 1) := by decide +kernel
theorem dL_law_1210 : decode cL_law 1210 = .ok (.laload, 1) := by decide +kernel
theorem dL_law_1211 : decode cL_law 1211 = .ok (.iload 7, 2) := by decide +kernel
theorem dL_law_1213 : decode cL_law 1213 = .ok (.i2l, 1) := by decide +kernel
theorem dL_law_1214 : decode cL_law 1214 = .ok (.lcmp, 1) := by decide +kernel
theorem dL_law_1215 : decode cL_law 1215 = .ok (.ifCond .eq 5, 3) := by decide +kernel
theorem dL_law_1218 : decode cL_law 1218 = .ok (.iconst 0, 1) := by decide +kernel
theorem dL_law_1219 : decode cL_law 1219 = .ok (.ireturn, 1) := by decide +kernel
theorem dL_law_1220 : decode cL_law 1220 = .ok (.goto 1274, 3) := by decide +kernel
theorem dL_law_1223 : decode cL_law 1223 = .ok (.aload_n 1, 1) := by decide +kernel
theorem dL_law_1224 : decode cL_law 1224 = .ok (.aload_n 0, 1) := by decide +kernel
theorem dL_law_1225 : decode cL_law 1225 = .ok (.iload 5, 2) := by decide +kernel
theorem dL_law_1227 : decode cL_law 1227 = .ok (.iconst 1, 1) := by decide +kernel
theorem dL_law_1228 : decode cL_law 1228 = .ok (.iadd, 1) := by decide +kernel
theorem dL_law_1229 : decode cL_law 1229 = .ok (.iaload, 1) := by decide +kernel
theorem dL_law_1230 : decode cL_law 1230 = .ok (.aload_n 0, 1) := by decide +kernel
theorem dL_law_1231 : decode cL_law 1231 = .ok (.iload 5, 2) := by decide +kernel
theorem dL_law_1233 : decode cL_law 1233 = .ok (.iconst 2, 1) := by decide +kernel
theorem dL_law_1234 : decode cL_law 1234 = .ok (.iadd, 1) := by decide +kernel
theorem dL_law_1235 : decode cL_law 1235 = .ok (.iaload, 1) := by decide +kernel
theorem dL_law_1236 : decode cL_law 1236 = .ok (.aload 4, 2) := by decide +kernel
theorem dL_law_1238 : decode cL_law 1238 = .ok (.invokestatic 191, 3) := by decide +kernel
theorem dL_law_1241 : decode cL_law 1241 = .ok (.istore 6, 2) := by decide +kernel
theorem dL_law_1243 : decode cL_law 1243 = .ok (.aload_n 2, 1) := by decide +kernel
theorem dL_law_1244 : decode cL_law 1244 = .ok (.aload_n 0, 1) := by decide +kernel
theorem dL_law_1245 : decode cL_law 1245 = .ok (.iload 5, 2) := by decide +kernel
theorem dL_law_1247 : decode cL_law 1247 = .ok (.iconst 1, 1) := by decide +kernel
theorem dL_law_1248 : decode cL_law 1248 = .ok (.iadd, 1) := by decide +kernel
theorem dL_law_1249 : decode cL_law 1249 = .ok (.iaload, 1) := by decide +kernel
theorem dL_law_1250 : decode cL_law 1250 = .ok (.aload_n 0, 1) := by decide +kernel
theorem dL_law_1251 : decode cL_law 1251 = .ok (.iload 5, 2) := by decide +kernel
theorem dL_law_1253 : decode cL_law 1253 = .ok (.iconst 2, 1) := by decide +kernel
theorem dL_law_1254 : decode cL_law 1254 = .ok (.iadd, 1) := by decide +kernel
theorem dL_law_1255 : decode cL_law 1255 = .ok (.iaload, 1) := by decide +kernel
theorem dL_law_1256 : decode cL_law 1256 = .ok (.invokevirtual 193, 3) := by decide +kernel
theorem dL_law_1259 : decode cL_law 1259 = .ok (.fstore 7, 2) := by decide +kernel
theorem dL_law_1261 : decode cL_law 1261 = .ok (.aload_n 2, 1) := by decide +kernel
theorem dL_law_1262 : decode cL_law 1262 = .ok (.invokevirtual 145, 3) := by decide +kernel
theorem dL_law_1265 : decode cL_law 1265 = .ok (.iload 6, 2) := by decide +kernel
theorem dL_law_1267 : decode cL_law 1267 = .ok (.if_icmp .eq 5, 3) := by decide +kernel
theorem dL_law_1270 : decode cL_law 1270 = .ok (.iconst 0, 1) := by decide +kernel
theorem dL_law_1271 : decode cL_law 1271 = .ok (.ireturn, 1) := by decide +kernel
theorem dL_law_1272 : decode cL_law 1272 = .ok (.iload 6, 2) := by decide +kernel
theorem dL_law_1274 : decode cL_law 1274 = .ok (.ifCond .ne 36, 3) := by decide +kernel
theorem dL_law_1277 : decode cL_law 1277 = .ok (.aload 4, 2) := by decide +kernel
theorem dL_law_1279 : decode cL_law 1279 = .ok (.iconst 0, 1) := by decide +kernel
theorem dL_law_1280 : decode cL_law 1280 = .ok (.daload, 1) := by decide +kernel
theorem dL_law_1281 : decode cL_law 1281 = .ok (.fload 7, 2) := by decide +kernel
theorem dL_law_1283 : decode cL_law 1283 = .ok (.f2d, 1) := by decide +kernel
theorem dL_law_1284 : decode cL_law 1284 = .ok (.dcmp .l, 1) := by decide +kernel
theorem dL_law_1285 : decode cL_law 1285 = .ok (.ifCond .eq 25, 3) := by decide +kernel
theorem dL_law_1288 : decode cL_law 1288 = .ok (.aload 4, 2) := by decide +kernel
theorem dL_law_1290 : decode cL_law 1290 = .ok (.iconst 0, 1) := by decide +kernel
theorem dL_law_1291 : decode cL_law 1291 = .ok (.daload, 1) := by decide +kernel
theorem dL_law_1292 : decode cL_law 1292 = .ok (.aload 4, 2) := by decide +kernel
theorem dL_law_1294 : decode cL_law 1294 = .ok (.iconst 0, 1) := by decide +kernel
theorem dL_law_1295 : decode cL_law 1295 = .ok (.daload, 1) := by decide +kernel
theorem dL_law_1296 : decode cL_law 1296 = .ok (.dcmp .l, 1) := by decide +kernel
theorem dL_law_1297 : decode cL_law 1297 = .ok (.ifCond .eq 11, 3) := by decide +kernel
theorem dL_law_1300 : decode cL_law 1300 = .ok (.fload 7, 2) := by decide +kernel
theorem dL_law_1302 : decode cL_law 1302 = .ok (.fload 7, 2) := by decide +kernel
theorem dL_law_1304 : decode cL_law 1304 = .ok (.fcmp .l, 1) := by decide +kernel
theorem dL_law_1305 : decode cL_law 1305 = .ok (.ifCond .ne 5, 3) := by decide +kernel
theorem dL_law_1308 : decode cL_law 1308 = .ok (.iconst 0, 1) := by decide +kernel
theorem dL_law_1309 : decode cL_law 1309 = .ok (.ireturn, 1) := by decide +kernel
theorem dL_law_1310 : decode cL_law 1310 = .ok (.goto 1184, 3) := by decide +kernel
theorem dL_law_1313 : decode cL_law 1313 = .ok (.aload_n 1, 1) := by decide +kernel
theorem dL_law_1314 : decode cL_law 1314 = .ok (.aload_n 0, 1) := by decide +kernel
theorem dL_law_1315 : decode cL_law 1315 = .ok (.iload 5, 2) := by decide +kernel
theorem dL_law_1317 : decode cL_law 1317 = .ok (.iconst 1, 1) := by decide +kernel
theorem dL_law_1318 : decode cL_law 1318 = .ok (.iadd, 1) := by decide +kernel
theorem dL_law_1319 : decode cL_law 1319 = .ok (.iaload, 1) := by decide +kernel
theorem dL_law_1320 : decode cL_law 1320 = .ok (.aload_n 0, 1) := by decide +kernel
theorem dL_law_1321 : decode cL_law 1321 = .ok (.iload 5, 2) := by decide +kernel
theorem dL_law_1323 : decode cL_law 1323 = .ok (.iconst 2, 1) := by decide +kernel
theorem dL_law_1324 : decode cL_law 1324 = .ok (.iadd, 1) := by decide +kernel
theorem dL_law_1325 : decode cL_law 1325 = .ok (.iaload, 1) := by decide +kernel
theorem dL_law_1326 : decode cL_law 1326 = .ok (.aload_n 3, 1) := by decide +kernel
theorem dL_law_1327 : decode cL_law 1327 = .ok (.invokestatic 194, 3) := by decide +kernel
theorem dL_law_1330 : decode cL_law 1330 = .ok (.istore 6, 2) := by decide +kernel
theorem dL_law_1332 : decode cL_law 1332 = .ok (.aload_n 2, 1) := by decide +kernel
theorem dL_law_1333 : decode cL_law 1333 = .ok (.aload_n 0, 1) := by decide +kernel
theorem dL_law_1334 : decode cL_law 1334 = .ok (.iload 5, 2) := by decide +kernel
theorem dL_law_1336 : decode cL_law 1336 = .ok (.iconst 1, 1) := by decide +kernel
theorem dL_law_1337 : decode cL_law 1337 = .ok (.iadd, 1) := by decide +kernel
theorem dL_law_1338 : decode cL_law 1338 = .ok (.iaload, 1) := by decide +kernel
theorem dL_law_1339 : decode cL_law 1339 = .ok (.aload_n 0, 1) := by decide +kernel
theorem dL_law_1340 : decode cL_law 1340 = .ok (.iload 5, 2) := by decide +kernel
theorem dL_law_1342 : decode cL_law 1342 = .ok (.iconst 2, 1) := by decide +kernel
theorem dL_law_1343 : decode cL_law 1343 = .ok (.iadd, 1) := by decide +kernel
theorem dL_law_1344 : decode cL_law 1344 = .ok (.iaload, 1) := by decide +kernel
theorem dL_law_1345 : decode cL_law 1345 = .ok (.invokevirtual 196, 3) := by decide +kernel
theorem dL_law_1348 : decode cL_law 1348 = .ok (.istore 7, 2) := by decide +kernel
theorem dL_law_1350 : decode cL_law 1350 = .ok (.aload_n 2, 1) := by decide +kernel
theorem dL_law_1351 : decode cL_law 1351 = .ok (.invokevirtual 145, 3) := by decide +kernel
theorem dL_law_1354 : decode cL_law 1354 = .ok (.iload 6, 2) := by decide +kernel
theorem dL_law_1356 : decode cL_law 1356 = .ok (.if_icmp .eq 5, 3) := by decide +kernel
theorem dL_law_1359 : decode cL_law 1359 = .ok (.iconst 0, 1) := by decide +kernel
theorem dL_law_1360 : decode cL_law 1360 = .ok (.ireturn, 1) := by decide +kernel
theorem dL_law_1361 : decode cL_law 1361 = .ok (.iload 6, 2) := by decide +kernel
theorem dL_law_1363 : decode cL_law 1363 = .ok (.ifCond .ne 15, 3) := by decide +kernel
theorem dL_law_1366 : decode cL_law 1366 = .ok (.aload_n 3, 1) := by decide +kernel
theorem dL_law_1367 : decode cL_law 1367 = .ok (.iconst 0, 1) := by decide +kernel
theorem dL_law_1368 : decode cL_law 1368 = .ok (.laload, 1) := by decide +kernel
theorem dL_law_1369 : decode cL_law 1369 = .ok (.iload 7, 2) := by decide +kernel
theorem dL_law_1371 : decode cL_law 1371 = .ok (.i2l, 1) := by decide +kernel
theorem dL_law_1372 : decode cL_law 1372 = .ok (.lcmp, 1) := by decide +kernel
theorem dL_law_1373 : decode cL_law 1373 = .ok (.ifCond .eq 5, 3) := by decide +kernel
theorem dL_law_1376 : decode cL_law 1376 = .ok (.iconst 0, 1) := by decide +kernel
theorem dL_law_1377 : decode cL_law 1377 = .ok (.ireturn, 1) := by decide +kernel
theorem dL_law_1378 : decode cL_law 1378 = .ok (.goto 1116, 3) := by decide +kernel
theorem dL_law_1381 : decode cL_law 1381 = .ok (.aload_n 1, 1) := by decide +kernel
theorem dL_law_1382 : decode cL_law 1382 = .ok (.aload_n 0, 1) := by decide +kernel
theorem dL_law_1383 : decode cL_law 1383 = .ok (.iload 5, 2) := by decide +kernel
theorem dL_law_1385 : decode cL_law 1385 = .ok (.iconst 1, 1) := by decide +kernel
theorem dL_law_1386 : decode cL_law 1386 = .ok (.iadd, 1) := by decide +kernel
theorem dL_law_1387 : decode cL_law 1387 = .ok (.iaload, 1) := by decide +kernel
theorem dL_law_1388 : decode cL_law 1388 = .ok (.aload_n 3, 1) := by decide +kernel
theorem dL_law_1389 : decode cL_law 1389 = .ok (.invokestatic 197, 3) := by decide +kernel
theorem dL_law_1392 : decode cL_law 1392 = .ok (.istore 6, 2) := by decide +kernel
theorem dL_law_1394 : decode cL_law 1394 = .ok (.aload_n 2, 1) := by decide +kernel
theorem dL_law_1395 : decode cL_law 1395 = .ok (.aload_n 0, 1) := by decide +kernel
theorem dL_law_1396 : decode cL_law 1396 = .ok (.iload 5, 2) := by decide +kernel
theorem dL_law_1398 : decode cL_law 1398 = .ok (.iconst 1, 1) := by decide +kernel
theorem dL_law_1399 : decode cL_law 1399 = .ok (.iadd, 1) := by decide +kernel
theorem dL_law_1400 : decode cL_law 1400 = .ok (.iaload, 1) := by decide +kernel
theorem dL_law_1401 : decode cL_law 1401 = .ok (.invokevirtual 199, 3) := by decide +kernel
theorem dL_law_1404 : decode cL_law 1404 = .ok (.istore 7, 2) := by decide +kernel
theorem dL_law_1406 : decode cL_law 1406 = .ok (.aload_n 2, 1) := by decide +kernel
theorem dL_law_1407 : decode cL_law 1407 = .ok (.invokevirtual 145, 3) := by decide +kernel
theorem dL_law_1410 : decode cL_law 1410 = .ok (.iload 6, 2) := by decide +kernel
theorem dL_law_1412 : decode cL_law 1412 = .ok (.if_icmp .eq 5, 3) := by decide +kernel
theorem dL_law_1415 : decode cL_law 1415 = .ok (.iconst 0, 1) := by decide +kernel
theorem dL_law_1416 : decode cL_law 1416 = .ok (.ireturn, 1) := by decide +kernel
theorem dL_law_1417 : decode cL_law 1417 = .ok (.iload 6, 2) := by decide +kernel
theorem dL_law_1419 : decode cL_law 1419 = .ok (.ifCond .ne 15, 3) := by decide +kernel
theorem dL_law_1422 : decode cL_law 1422 = .ok (.aload_n 3, 1) := by decide +kernel
theorem dL_law_1423 : decode cL_law 1423 = .ok (.iconst 0, 1) := by decide +kernel
theorem dL_law_1424 : decode cL_law 1424 = .ok (.laload, 1) := by decide +kernel
theorem dL_law_1425 : decode cL_law 1425 = .ok (.iload 7, 2) := by decide +kernel
theorem dL_law_1427 : decode cL_law 1427 = .ok (.i2l, 1) := by decide +kernel
theorem dL_law_1428 : decode cL_law 1428 = .ok (.lcmp, 1) := by decide +kernel
theorem dL_law_1429 : decode cL_law 1429 = .ok (.ifCond .eq 5, 3) := by decide +kernel
theorem dL_law_1432 : decode cL_law 1432 = .ok (.iconst 0, 1) := by decide +kernel
theorem dL_law_1433 : decode cL_law 1433 = .ok (.ireturn, 1) := by decide +kernel
theorem dL_law_1434 : decode cL_law 1434 = .ok (.goto 1060, 3) := by decide +kernel
theorem dL_law_1437 : decode cL_law 1437 = .ok (.aload_n 1, 1) := by decide +kernel
theorem dL_law_1438 : decode cL_law 1438 = .ok (.aload_n 0, 1) := by decide +kernel
theorem dL_law_1439 : decode cL_law 1439 = .ok (.iload 5, 2) := by decide +kernel
theorem dL_law_1441 : decode cL_law 1441 = .ok (.iconst 1, 1) := by decide +kernel
theorem dL_law_1442 : decode cL_law 1442 = .ok (.iadd, 1) := by decide +kernel
theorem dL_law_1443 : decode cL_law 1443 = .ok (.iaload, 1) := by decide +kernel
theorem dL_law_1444 : decode cL_law 1444 = .ok (.aload_n 0, 1) := by decide +kernel
theorem dL_law_1445 : decode cL_law 1445 = .ok (.iload 5, 2) := by decide +kernel
theorem dL_law_1447 : decode cL_law 1447 = .ok (.iconst 2, 1) := by decide +kernel
theorem dL_law_1448 : decode cL_law 1448 = .ok (.iadd, 1) := by decide +kernel
theorem dL_law_1449 : decode cL_law 1449 = .ok (.iaload, 1) := by decide +kernel
theorem dL_law_1450 : decode cL_law 1450 = .ok (.aload_n 3, 1) := by decide +kernel
theorem dL_law_1451 : decode cL_law 1451 = .ok (.invokestatic 200, 3) := by decide +kernel
theorem dL_law_1454 : decode cL_law 1454 = .ok (.istore 6, 2) := by decide +kernel
theorem dL_law_1456 : decode cL_law 1456 = .ok (.aload_n 2, 1) := by decide +kernel
theorem dL_law_1457 : decode cL_law 1457 = .ok (.aload_n 0, 1) := by decide +kernel
theorem dL_law_1458 : decode cL_law 1458 = .ok (.iload 5, 2) := by decide +kernel
theorem dL_law_1460 : decode cL_law 1460 = .ok (.iconst 1, 1) := by decide +kernel
theorem dL_law_1461 : decode cL_law 1461 = .ok (.iadd, 1) := by decide +kernel
theorem dL_law_1462 : decode cL_law 1462 = .ok (.iaload, 1) := by decide +kernel
theorem dL_law_1463 : decode cL_law 1463 = .ok (.aload_n 0, 1) := by decide +kernel
theorem dL_law_1464 : decode cL_law 1464 = .ok (.iload 5, 2) := by decide +kernel
theorem dL_law_1466 : decode cL_law 1466 = .ok (.iconst 2, 1) := by decide +kernel
theorem dL_law_1467 : decode cL_law 1467 = .ok (.iadd, 1) := by decide +kernel
theorem dL_law_1468 : decode cL_law 1468 = .ok (.iaload, 1) := by decide +kernel
theorem dL_law_1469 : decode cL_law 1469 = .ok (.invokevirtual 202, 3) := by decide +kernel
theorem dL_law_1472 : decode cL_law 1472 = .ok (.istore 7, 2) := by decide +kernel
theorem dL_law_1474 : decode cL_law 1474 = .ok (.aload_n 2, 1) := by decide +kernel
theorem dL_law_1475 : decode cL_law 1475 = .ok (.invokevirtual 145, 3) := by decide +kernel
theorem dL_law_1478 : decode cL_law 1478 = .ok (.iload 6, 2) := by decide +kernel
theorem dL_law_1480 : decode cL_law 1480 = .ok (.if_icmp .eq 5, 3) := by decide +kernel
theorem dL_law_1483 : decode cL_law 1483 = .ok (.iconst 0, 1) := by decide +kernel
theorem dL_law_1484 : decode cL_law 1484 = .ok (.ireturn, 1) := by decide +kernel
theorem dL_law_1485 : decode cL_law 1485 = .ok (.iload 6, 2) := by decide +kernel
theorem dL_law_1487 : decode cL_law 1487 = .ok (.ifCond .ne 15, 3) := by decide +kernel
theorem dL_law_1490 : decode cL_law 1490 = .ok (.aload_n 3, 1) := by decide +kernel
theorem dL_law_1491 : decode cL_law 1491 = .ok (.iconst 0, 1) := by decide +kernel
theorem dL_law_1492 : decode cL_law 1492 = .ok (.laload, 1) := by decide +kernel
theorem dL_law_1493 : decode cL_law 1493 = .ok (.iload 7, 2) := by decide +kernel
theorem dL_law_1495 : decode cL_law 1495 = .ok (.i2l, 1) := by decide +kernel
theorem dL_law_1496 : decode cL_law 1496 = .ok (.lcmp, 1) := by decide +kernel
theorem dL_law_1497 : decode cL_law 1497 = .ok (.ifCond .eq 5, 3) := by decide +kernel
theorem dL_law_1500 : decode cL_law 1500 = .ok (.iconst 0, 1) := by decide +kernel
theorem dL_law_1501 : decode cL_law 1501 = .ok (.ireturn, 1) := by decide +kernel
theorem dL_law_1502 : decode cL_law 1502 = .ok (.goto 992, 3) := by decide +kernel
theorem dL_law_1505 : decode cL_law 1505 = .ok (.aload_n 1, 1) := by decide +kernel
theorem dL_law_1506 : decode cL_law 1506 = .ok (.aload_n 0, 1) := by decide +kernel
theorem dL_law_1507 : decode cL_law 1507 = .ok (.iload 5, 2) := by decide +kernel
theorem dL_law_1509 : decode cL_law 1509 = .ok (.iconst 1, 1) := by decide +kernel
theorem dL_law_1510 : decode cL_law 1510 = .ok (.iadd, 1) := by decide +kernel
theorem dL_law_1511 : decode cL_law 1511 = .ok (.iaload, 1) := by decide +kernel
theorem dL_law_1512 : decode cL_law 1512 = .ok (.aload_n 0, 1) := by decide +kernel
theorem dL_law_1513 : decode cL_law 1513 = .ok (.iload 5, 2) := by decide +kernel
theorem dL_law_1515 : decode cL_law 1515 = .ok (.iconst 2, 1) := by decide +kernel
theorem dL_law_1516 : decode cL_law 1516 = .ok (.iadd, 1) := by decide +kernel
theorem dL_law_1517 : decode cL_law 1517 = .ok (.iaload, 1) := by decide +kernel
theorem dL_law_1518 : decode cL_law 1518 = .ok (.aload_n 3, 1) := by decide +kernel
theorem dL_law_1519 : decode cL_law 1519 = .ok (.invokestatic 203, 3) := by decide +kernel
theorem dL_law_1522 : decode cL_law 1522 = .ok (.istore 6, 2) := by decide +kernel
theorem dL_law_1524 : decode cL_law 1524 = .ok (.aload_n 2, 1) := by decide +kernel
theorem dL_law_1525 : decode cL_law 1525 = .ok (.aload_n 0, 1) := by decide +kernel
theorem dL_law_1526 : decode cL_law 1526 = .ok (.iload 5, 2) := by decide +kernel
theorem dL_law_1528 : decode cL_law 1528 = .ok (.iconst 1, 1) := by decide +kernel
theorem dL_law_1529 : decode cL_law 1529 = .ok (.iadd, 1) := by decide +kernel
theorem dL_law_1530 : decode cL_law 1530 = .ok (.iaload, 1) := by decide +kernel
theorem dL_law_1531 : decode cL_law 1531 = .ok (.aload_n 0, 1) := by decide +kernel
theorem dL_law_1532 : decode cL_law 1532 = .ok (.iload 5, 2) := by decide +kernel
theorem dL_law_1534 : decode cL_law 1534 = .ok (.iconst 2, 1) := by decide +kernel
theorem dL_law_1535 : decode cL_law 1535 = .ok (.iadd, 1) := by decide +kernel
theorem dL_law_1536 : decode cL_law 1536 = .ok (.iaload, 1) := by decide +kernel
theorem dL_law_1537 : decode cL_law 1537 = .ok (.invokevirtual 205, 3) := by decide +kernel
theorem dL_law_1540 : decode cL_law 1540 = .ok (.istore 7, 2) := by decide +kernel
theorem dL_law_1542 : decode cL_law 1542 = .ok (.aload_n 2, 1) := by decide +kernel
theorem dL_law_1543 : decode cL_law 1543 = .ok (.invokevirtual 145, 3) := by decide +kernel
theorem dL_law_1546 : decode cL_law 1546 = .ok (.iload 6, 2) := by decide +kernel
theorem dL_law_1548 : decode cL_law 1548 = .ok (.if_icmp .eq 5, 3) := by decide +kernel
theorem dL_law_1551 : decode cL_law 1551 = .ok (.iconst 0, 1) := by decide +kernel
theorem dL_law_1552 : decode cL_law 1552 = .ok (.ireturn, 1) := by decide +kernel
theorem dL_law_1553 : decode cL_law 1553 = .ok (.iload 6, 2) := by decide +kernel
theorem dL_law_1555 : decode cL_law 1555 = .ok (.ifCond .ne 15, 3) := by decide +kernel
theorem dL_law_1558 : decode cL_law 1558 = .ok (.aload_n 3, 1) := by decide +kernel
theorem dL_law_1559 : decode cL_law 1559 = .ok (.iconst 0, 1) := by decide +kernel
theorem dL_law_1560 : decode cL_law 1560 = .ok (.laload, 1) := by decide +kernel
theorem dL_law_1561 : decode cL_law 1561 = .ok (.iload 7, 2) := by decide +kernel
theorem dL_law_1563 : decode cL_law 1563 = .ok (.i2l, 1) := by decide +kernel
theorem dL_law_1564 : decode cL_law 1564 = .ok (.lcmp, 1) := by decide +kernel
theorem dL_law_1565 : decode cL_law 1565 = .ok (.ifCond .eq 5, 3) := by decide +kernel
theorem dL_law_1568 : decode cL_law 1568 = .ok (.iconst 0, 1) := by decide +kernel
theorem dL_law_1569 : decode cL_law 1569 = .ok (.ireturn, 1) := by decide +kernel
theorem dL_law_1570 : decode cL_law 1570 = .ok (.goto 924, 3) := by decide +kernel
theorem dL_law_1573 : decode cL_law 1573 = .ok (.aload_n 1, 1) := by decide +kernel
theorem dL_law_1574 : decode cL_law 1574 = .ok (.aload_n 0, 1) := by decide +kernel
theorem dL_law_1575 : decode cL_law 1575 = .ok (.iload 5, 2) := by decide +kernel
theorem dL_law_1577 : decode cL_law 1577 = .ok (.iconst 1, 1) := by decide +kernel
theorem dL_law_1578 : decode cL_law 1578 = .ok (.iadd, 1) := by decide +kernel
theorem dL_law_1579 : decode cL_law 1579 = .ok (.iaload, 1) := by decide +kernel
theorem dL_law_1580 : decode cL_law 1580 = .ok (.aload_n 0, 1) := by decide +kernel
theorem dL_law_1581 : decode cL_law 1581 = .ok (.iload 5, 2) := by decide +kernel
theorem dL_law_1583 : decode cL_law 1583 = .ok (.iconst 2, 1) := by decide +kernel
theorem dL_law_1584 : decode cL_law 1584 = .ok (.iadd, 1) := by decide +kernel
theorem dL_law_1585 : decode cL_law 1585 = .ok (.iaload, 1) := by decide +kernel
theorem dL_law_1586 : decode cL_law 1586 = .ok (.aload_n 3, 1) := by decide +kernel
theorem dL_law_1587 : decode cL_law 1587 = .ok (.invokestatic 206, 3) := by decide +kernel
theorem dL_law_1590 : decode cL_law 1590 = .ok (.istore 6, 2) := by decide +kernel
theorem dL_law_1592 : decode cL_law 1592 = .ok (.aload_n 2, 1) := by decide +kernel
theorem dL_law_1593 : decode cL_law 1593 = .ok (.aload_n 0, 1) := by decide +kernel
theorem dL_law_1594 : decode cL_law 1594 = .ok (.iload 5, 2) := by decide +kernel
theorem dL_law_1596 : decode cL_law 1596 = .ok (.iconst 1, 1) := by decide +kernel
theorem dL_law_1597 : decode cL_law 1597 = .ok (.iadd, 1) := by decide +kernel
theorem dL_law_1598 : decode cL_law 1598 = .ok (.iaload, 1) := by decide +kernel
theorem dL_law_1599 : decode cL_law 1599 = .ok (.aload_n 0, 1) := by decide +kernel
theorem dL_law_1600 : decode cL_law 1600 = .ok (.iload 5, 2) := by decide +kernel
theorem dL_law_1602 : decode cL_law 1602 = .ok (.iconst 2, 1) := by decide +kernel
theorem dL_law_1603 : decode cL_law 1603 = .ok (.iadd, 1) := by decide +kernel
theorem dL_law_1604 : decode cL_law 1604 = .ok (.iaload, 1) := by decide +kernel
theorem dL_law_1605 : decode cL_law 1605 = .ok (.invokevirtual 208, 3) := by decide +kernel
theorem dL_law_1608 : decode cL_law 1608 = .ok (.istore 7, 2) := by decide +kernel
theorem dL_law_1610 : decode cL_law 1610 = .ok (.aload_n 2, 1) := by decide +kernel
theorem dL_law_1611 : decode cL_law 1611 = .ok (.invokevirtual 145, 3) := by decide +kernel
theorem dL_law_1614 : decode cL_law 1614 = .ok (.iload 6, 2) := by decide +kernel
theorem dL_law_1616 : decode cL_law 1616 = .ok (.if_icmp .eq 5, 3) := by decide +kernel
theorem dL_law_1619 : decode cL_law 1619 = .ok (.iconst 0, 1) := by decide +kernel
theorem dL_law_1620 : decode cL_law 1620 = .ok (.ireturn, 1) := by decide +kernel
theorem dL_law_1621 : decode cL_law 1621 = .ok (.iload 6, 2) := by decide +kernel
theorem dL_law_1623 : decode cL_law 1623 = .ok (.ifCond .ne 22, 3) := by decide +kernel
theorem dL_law_1626 : decode cL_law 1626 = .ok (.aload_n 3, 1) := by decide +kernel
theorem dL_law_1627 : decode cL_law 1627 = .ok (.iconst 0, 1) := by decide +kernel
theorem dL_law_1628 : decode cL_law 1628 = .ok (.laload, 1) := by decide +kernel
theorem dL_law_1629 : decode cL_law 1629 = .ok (.iload 7, 2) := by decide +kernel
theorem dL_law_1631 : decode cL_law 1631 = .ok (.ifCond .eq 7, 3) := by decide +kernel
theorem dL_law_1634 : decode cL_law 1634 = .ok (.lconst 1, 1) := by decide +kernel
theorem dL_law_1635 : decode cL_law 1635 = .ok (.goto 4, 3) := by decide +kernel
theorem dL_law_1638 : decode cL_law 1638 = .ok (.lconst 0, 1) := by decide +kernel
theorem dL_law_1639 : decode cL_law 1639 = .ok (.lcmp, 1) := by decide +kernel
theorem dL_law_1640 : decode cL_law 1640 = .ok (.ifCond .eq 5, 3) := by decide +kernel
theorem dL_law_1643 : decode cL_law 1643 = .ok (.iconst 0, 1) := by decide +kernel
theorem dL_law_1644 : decode cL_law 1644 = .ok (.ireturn, 1) := by decide +kernel
theorem dL_law_1645 : decode cL_law 1645 = .ok (.goto 849, 3) := by decide +kernel
theorem dL_law_1648 : decode cL_law 1648 = .ok (.aload_n 1, 1) := by decide +kernel
theorem dL_law_1649 : decode cL_law 1649 = .ok (.aload_n 0, 1) := by decide +kernel
theorem dL_law_1650 : decode cL_law 1650 = .ok (.iload 5, 2) := by decide +kernel
theorem dL_law_1652 : decode cL_law 1652 = .ok (.iconst 1, 1) := by decide +kernel
theorem dL_law_1653 : decode cL_law 1653 = .ok (.iadd, 1) := by decide +kernel
theorem dL_law_1654 : decode cL_law 1654 = .ok (.iaload, 1) := by decide +kernel
theorem dL_law_1655 : decode cL_law 1655 = .ok (.aload_n 3, 1) := by decide +kernel
theorem dL_law_1656 : decode cL_law 1656 = .ok (.invokestatic 209, 3) := by decide +kernel
theorem dL_law_1659 : decode cL_law 1659 = .ok (.istore 6, 2) := by decide +kernel
theorem dL_law_1661 : decode cL_law 1661 = .ok (.aload_n 2, 1) := by decide +kernel
theorem dL_law_1662 : decode cL_law 1662 = .ok (.aload_n 0, 1) := by decide +kernel
theorem dL_law_1663 : decode cL_law 1663 = .ok (.iload 5, 2) := by decide +kernel
theorem dL_law_1665 : decode cL_law 1665 = .ok (.iconst 1, 1) := by decide +kernel
theorem dL_law_1666 : decode cL_law 1666 = .ok (.iadd, 1) := by decide +kernel
theorem dL_law_1667 : decode cL_law 1667 = .ok (.iaload, 1) := by decide +kernel
theorem dL_law_1668 : decode cL_law 1668 = .ok (.invokevirtual 211, 3) := by decide +kernel
theorem dL_law_1671 : decode cL_law 1671 = .ok (.istore 7, 2) := by decide +kernel
theorem dL_law_1673 : decode cL_law 1673 = .ok (.aload_n 2, 1) := by decide +kernel
theorem dL_law_1674 : decode cL_law 1674 = .ok (.invokevirtual 145, 3) := by decide +kernel
theorem dL_law_1677 : decode cL_law 1677 = .ok (.iload 6, 2) := by decide +kernel
theorem dL_law_1679 : decode cL_law 1679 = .ok (.if_icmp .eq 5, 3) := by decide +kernel
theorem dL_law_1682 : decode cL_law 1682 = .ok (.iconst 0, 1) := by decide +kernel
theorem dL_law_1683 : decode cL_law 1683 = .ok (.ireturn, 1) := by decide +kernel
theorem dL_law_1684 : decode cL_law 1684 = .ok (.iload 6, 2) := by decide +kernel
theorem dL_law_1686 : decode cL_law 1686 = .ok (.ifCond .ne 15, 3) := by decide +kernel
theorem dL_law_1689 : decode cL_law 1689 = .ok (.aload_n 3, 1) := by decide +kernel
theorem dL_law_1690 : decode cL_law 1690 = .ok (.iconst 0, 1) := by decide +kernel
theorem dL_law_1691 : decode cL_law 1691 = .ok (.laload, 1) := by decide +kernel
theorem dL_law_1692 : decode cL_law 1692 = .ok (.iload 7, 2) := by decide +kernel
theorem dL_law_1694 : decode cL_law 1694 = .ok (.i2l, 1) := by decide +kernel
theorem dL_law_1695 : decode cL_law 1695 = .ok (.lcmp, 1) := by decide +kernel
theorem dL_law_1696 : decode cL_law 1696 = .ok (.ifCond .eq 5, 3) := by decide +kernel
theorem dL_law_1699 : decode cL_law 1699 = .ok (.iconst 0, 1) := by decide +kernel
theorem dL_law_1700 : decode cL_law 1700 = .ok (.ireturn, 1) := by decide +kernel
theorem dL_law_1701 : decode cL_law 1701 = .ok (.goto 793, 3) := by decide +kernel
theorem dL_law_1704 : decode cL_law 1704 = .ok (.aload_n 1, 1) := by decide +kernel
theorem dL_law_1705 : decode cL_law 1705 = .ok (.aload_n 0, 1) := by decide +kernel
theorem dL_law_1706 : decode cL_law 1706 = .ok (.iload 5, 2) := by decide +kernel
theorem dL_law_1708 : decode cL_law 1708 = .ok (.iconst 1, 1) := by decide +kernel
theorem dL_law_1709 : decode cL_law 1709 = .ok (.iadd, 1) := by decide +kernel
theorem dL_law_1710 : decode cL_law 1710 = .ok (.iaload, 1) := by decide +kernel
theorem dL_law_1711 : decode cL_law 1711 = .ok (.aload_n 3, 1) := by decide +kernel
theorem dL_law_1712 : decode cL_law 1712 = .ok (.invokestatic 212, 3) := by decide +kernel
theorem dL_law_1715 : decode cL_law 1715 = .ok (.istore 6, 2) := by decide +kernel
theorem dL_law_1717 : decode cL_law 1717 = .ok (.aload_n 2, 1) := by decide +kernel
theorem dL_law_1718 : decode cL_law 1718 = .ok (.aload_n 0, 1) := by decide +kernel
theorem dL_law_1719 : decode cL_law 1719 = .ok (.iload 5, 2) := by decide +kernel
theorem dL_law_1721 : decode cL_law 1721 = .ok (.iconst 1, 1) := by decide +kernel
theorem dL_law_1722 : decode cL_law 1722 = .ok (.iadd, 1) := by decide +kernel
theorem dL_law_1723 : decode cL_law 1723 = .ok (.iaload, 1) := by decide +kernel
theorem dL_law_1724 : decode cL_law 1724 = .ok (.invokevirtual 214, 3) := by decide +kernel
theorem dL_law_1727 : decode cL_law 1727 = .ok (.istore 7, 2) := by decide +kernel
theorem dL_law_1729 : decode cL_law 1729 = .ok (.aload_n 2, 1) := by decide +kernel
theorem dL_law_1730 : decode cL_law 1730 = .ok (.invokevirtual 145, 3) := by decide +kernel
theorem dL_law_1733 : decode cL_law 1733 = .ok (.iload 6, 2) := by decide +kernel
theorem dL_law_1735 : decode cL_law 1735 = .ok (.if_icmp .eq 5, 3) := by decide +kernel
theorem dL_law_1738 : decode cL_law 1738 = .ok (.iconst 0, 1) := by decide +kernel
theorem dL_law_1739 : decode cL_law 1739 = .ok (.ireturn, 1) := by decide +kernel
theorem dL_law_1740 : decode cL_law 1740 = .ok (.iload 6, 2) := by decide +kernel
theorem dL_law_1742 : decode cL_law 1742 = .ok (.ifCond .ne 22, 3) := by decide +kernel
theorem dL_law_1745 : decode cL_law 1745 = .ok (.aload_n 3, 1) := by decide +kernel
theorem dL_law_1746 : decode cL_law 1746 = .ok (.iconst 0, 1) := by decide +kernel
theorem dL_law_1747 : decode cL_law 1747 = .ok (.laload, 1) := by decide +kernel
theorem dL_law_1748 : decode cL_law 1748 = .ok (.iload 7, 2) := by decide +kernel
theorem dL_law_1750 : decode cL_law 1750 = .ok (.ifCond .eq 7, 3) := by decide +kernel
theorem dL_law_1753 : decode cL_law 1753 = .ok (.lconst 1, 1) := by decide +kernel
theorem dL_law_1754 : decode cL_law 1754 = .ok (.goto 4, 3) := by decide +kernel
theorem dL_law_1757 : decode cL_law 1757 = .ok (.lconst 0, 1) := by decide +kernel
theorem dL_law_1758 : decode cL_law 1758 = .ok (.lcmp, 1) := by decide +kernel
theorem dL_law_1759 : decode cL_law 1759 = .ok (.ifCond .eq 5, 3) := by decide +kernel
theorem dL_law_1762 : decode cL_law 1762 = .ok (.iconst 0, 1) := by decide +kernel
theorem dL_law_1763 : decode cL_law 1763 = .ok (.ireturn, 1) := by decide +kernel
theorem dL_law_1764 : decode cL_law 1764 = .ok (.goto 730, 3) := by decide +kernel
theorem dL_law_1767 : decode cL_law 1767 = .ok (.aload_n 1, 1) := by decide +kernel
theorem dL_law_1768 : decode cL_law 1768 = .ok (.aload_n 0, 1) := by decide +kernel
theorem dL_law_1769 : decode cL_law 1769 = .ok (.iload 5, 2) := by decide +kernel
theorem dL_law_1771 : decode cL_law 1771 = .ok (.iconst 1, 1) := by decide +kernel
theorem dL_law_1772 : decode cL_law 1772 = .ok (.iadd, 1) := by decide +kernel
theorem dL_law_1773 : decode cL_law 1773 = .ok (.iaload, 1) := by decide +kernel
theorem dL_law_1774 : decode cL_law 1774 = .ok (.aload_n 0, 1) := by decide +kernel
theorem dL_law_1775 : decode cL_law 1775 = .ok (.iload 5, 2) := by decide +kernel
theorem dL_law_1777 : decode cL_law 1777 = .ok (.iconst 2, 1) := by decide +kernel
theorem dL_law_1778 : decode cL_law 1778 = .ok (.iadd, 1) := by decide +kernel
theorem dL_law_1779 : decode cL_law 1779 = .ok (.iaload, 1) := by decide +kernel
theorem dL_law_1780 : decode cL_law 1780 = .ok (.aload_n 3, 1) := by decide +kernel
theorem dL_law_1781 : decode cL_law 1781 = .ok (.invokestatic 215, 3) := by decide +kernel
theorem dL_law_1784 : decode cL_law 1784 = .ok (.istore 6, 2) := by decide +kernel
theorem dL_law_1786 : decode cL_law 1786 = .ok (.aload_n 2, 1) := by decide +kernel
theorem dL_law_1787 : decode cL_law 1787 = .ok (.aload_n 0, 1) := by decide +kernel
theorem dL_law_1788 : decode cL_law 1788 = .ok (.iload 5, 2) := by decide +kernel
theorem dL_law_1790 : decode cL_law 1790 = .ok (.iconst 1, 1) := by decide +kernel
theorem dL_law_1791 : decode cL_law 1791 = .ok (.iadd, 1) := by decide +kernel
theorem dL_law_1792 : decode cL_law 1792 = .ok (.iaload, 1) := by decide +kernel
theorem dL_law_1793 : decode cL_law 1793 = .ok (.aload_n 0, 1) := by decide +kernel
theorem dL_law_1794 : decode cL_law 1794 = .ok (.iload 5, 2) := by decide +kernel
theorem dL_law_1796 : decode cL_law 1796 = .ok (.iconst 2, 1) := by decide +kernel
theorem dL_law_1797 : decode cL_law 1797 = .ok (.iadd, 1) := by decide +kernel
theorem dL_law_1798 : decode cL_law 1798 = .ok (.iaload, 1) := by decide +kernel
theorem dL_law_1799 : decode cL_law 1799 = .ok (.invokevirtual 217, 3) := by decide +kernel
theorem dL_law_1802 : decode cL_law 1802 = .ok (.istore 7, 2) := by decide +kernel
theorem dL_law_1804 : decode cL_law 1804 = .ok (.aload_n 2, 1) := by decide +kernel
theorem dL_law_1805 : decode cL_law 1805 = .ok (.invokevirtual 145, 3) := by decide +kernel
theorem dL_law_1808 : decode cL_law 1808 = .ok (.iload 6, 2) := by decide +kernel
theorem dL_law_1810 : decode cL_law 1810 = .ok (.if_icmp .eq 5, 3) := by decide +kernel
theorem dL_law_1813 : decode cL_law 1813 = .ok (.iconst 0, 1) := by decide +kernel
theorem dL_law_1814 : decode cL_law 1814 = .ok (.ireturn, 1) := by decide +kernel
theorem dL_law_1815 : decode cL_law 1815 = .ok (.iload 6, 2) := by decide +kernel
theorem dL_law_1817 : decode cL_law 1817 = .ok (.ifCond .ne 15, 3) := by decide +kernel
theorem dL_law_1820 : decode cL_law 1820 = .ok (.aload_n 3, 1) := by decide +kernel
theorem dL_law_1821 : decode cL_law 1821 = .ok (.iconst 0, 1) := by decide +kernel
theorem dL_law_1822 : decode cL_law 1822 = .ok (.laload, 1) := by decide +kernel
theorem dL_law_1823 : decode cL_law 1823 = .ok (.iload 7, 2) := by decide +kernel
theorem dL_law_1825 : decode cL_law 1825 = .ok (.i2l, 1) := by decide +kernel
theorem dL_law_1826 : decode cL_law 1826 = .ok (.lcmp, 1) := by decide +kernel
theorem dL_law_1827 : decode cL_law 1827 = .ok (.ifCond .eq 5, 3) := by decide +kernel
theorem dL_law_1830 : decode cL_law 1830 = .ok (.iconst 0, 1) := by decide +kernel
theorem dL_law_1831 : decode cL_law 1831 = .ok (.ireturn, 1) := by decide +kernel
theorem dL_law_1832 : decode cL_law 1832 = .ok (.goto 662, 3) := by decide +kernel
theorem dL_law_1835 : decode cL_law 1835 = .ok (.aload_n 1, 1) := by decide +kernel
theorem dL_law_1836 : decode cL_law 1836 = .ok (.invokevirtual 218, 3) := by decide +kernel
theorem dL_law_1839 : decode cL_law 1839 = .ok (.aload_n 2, 1) := by decide +kernel
theorem dL_law_1840 : decode cL_law 1840 = .ok (.invokevirtual 221, 3) := by decide +kernel
theorem dL_law_1843 : decode cL_law 1843 = .ok (.if_icmp .eq 651, 3) := by decide +kernel
theorem dL_law_1846 : decode cL_law 1846 = .ok (.iconst 0, 1) := by decide +kernel
theorem dL_law_1847 : decode cL_law 1847 = .ok (.ireturn, 1) := by decide +kernel
theorem dL_law_1848 : decode cL_law 1848 = .ok (.aload_n 1, 1) := by decide +kernel
theorem dL_law_1849 : decode cL_law 1849 = .ok (.aload_n 0, 1) := by decide +kernel
theorem dL_law_1850 : decode cL_law 1850 = .ok (.iload 5, 2) := by decide +kernel
theorem dL_law_1852 : decode cL_law 1852 = .ok (.iconst 1, 1) := by decide +kernel
theorem dL_law_1853 : decode cL_law 1853 = .ok (.iadd, 1) := by decide +kernel
theorem dL_law_1854 : decode cL_law 1854 = .ok (.iaload, 1) := by decide +kernel
theorem dL_law_1855 : decode cL_law 1855 = .ok (.aload_n 3, 1) := by decide +kernel
theorem dL_law_1856 : decode cL_law 1856 = .ok (.invokestatic 222, 3) := by decide +kernel
theorem dL_law_1859 : decode cL_law 1859 = .ok (.istore 6, 2) := by decide +kernel
theorem dL_law_1861 : decode cL_law 1861 = .ok (.aload_n 2, 1) := by decide +kernel
theorem dL_law_1862 : decode cL_law 1862 = .ok (.aload_n 0, 1) := by decide +kernel
theorem dL_law_1863 : decode cL_law 1863 = .ok (.iload 5, 2) := by decide +kernel
theorem dL_law_1865 : decode cL_law 1865 = .ok (.iconst 1, 1) := by decide +kernel
theorem dL_law_1866 : decode cL_law 1866 = .ok (.iadd, 1) := by decide +kernel
theorem dL_law_1867 : decode cL_law 1867 = .ok (.iaload, 1) := by decide +kernel
theorem dL_law_1868 : decode cL_law 1868 = .ok (.invokevirtual 224, 3) := by decide +kernel
theorem dL_law_1871 : decode cL_law 1871 = .ok (.istore 7, 2) := by decide +kernel
theorem dL_law_1873 : decode cL_law 1873 = .ok (.aload_n 2, 1) := by decide +kernel
theorem dL_law_1874 : decode cL_law 1874 = .ok (.invokevirtual 145, 3) := by decide +kernel
theorem dL_law_1877 : decode cL_law 1877 = .ok (.iload 6, 2) := by decide +kernel
theorem dL_law_1879 : decode cL_law 1879 = .ok (.if_icmp .eq 5, 3) := by decide +kernel
theorem dL_law_1882 : decode cL_law 1882 = .ok (.iconst 0, 1) := by decide +kernel
theorem dL_law_1883 : decode cL_law 1883 = .ok (.ireturn, 1) := by decide +kernel
theorem dL_law_1884 : decode cL_law 1884 = .ok (.iload 6, 2) := by decide +kernel
theorem dL_law_1886 : decode cL_law 1886 = .ok (.ifCond .ne 15, 3) := by decide +kernel
theorem dL_law_1889 : decode cL_law 1889 = .ok (.aload_n 3, 1) := by decide +kernel
theorem dL_law_1890 : decode cL_law 1890 = .ok (.iconst 0, 1) := by decide +kernel
theorem dL_law_1891 : decode cL_law 1891 = .ok (.laload, 1) := by decide +kernel
theorem dL_law_1892 : decode cL_law 1892 = .ok (.iload 7, 2) := by decide +kernel
theorem dL_law_1894 : decode cL_law 1894 = .ok (.i2l, 1) := by decide +kernel
theorem dL_law_1895 : decode cL_law 1895 = .ok (.lcmp, 1) := by decide +kernel
theorem dL_law_1896 : decode cL_law 1896 = .ok (.ifCond .eq 5, 3) := by decide +kernel
theorem dL_law_1899 : decode cL_law 1899 = .ok (.iconst 0, 1) := by decide +kernel
theorem dL_law_1900 : decode cL_law 1900 = .ok (.ireturn, 1) := by decide +kernel
theorem dL_law_1901 : decode cL_law 1901 = .ok (.goto 593, 3) := by decide +kernel
theorem dL_law_1904 : decode cL_law 1904 = .ok (.aload_n 1, 1) := by decide +kernel
theorem dL_law_1905 : decode cL_law 1905 = .ok (.aload_n 0, 1) := by decide +kernel
theorem dL_law_1906 : decode cL_law 1906 = .ok (.iload 5, 2) := by decide +kernel
theorem dL_law_1908 : decode cL_law 1908 = .ok (.iconst 1, 1) := by decide +kernel
theorem dL_law_1909 : decode cL_law 1909 = .ok (.iadd, 1) := by decide +kernel
theorem dL_law_1910 : decode cL_law 1910 = .ok (.iaload, 1) := by decide +kernel
theorem dL_law_1911 : decode cL_law 1911 = .ok (.aload_n 3, 1) := by decide +kernel
theorem dL_law_1912 : decode cL_law 1912 = .ok (.invokestatic 225, 3) := by decide +kernel
theorem dL_law_1915 : decode cL_law 1915 = .ok (.istore 6, 2) := by decide +kernel
theorem dL_law_1917 : decode cL_law 1917 = .ok (.aload_n 2, 1) := by decide +kernel
theorem dL_law_1918 : decode cL_law 1918 = .ok (.aload_n 0, 1) := by decide +kernel
theorem dL_law_1919 : decode cL_law 1919 = .ok (.iload 5, 2) := by decide +kernel
theorem dL_law_1921 : decode cL_law 1921 = .ok (.iconst 1, 1) := by decide +kernel
theorem dL_law_1922 : decode cL_law 1922 = .ok (.iadd, 1) := by decide +kernel
theorem dL_law_1923 : decode cL_law 1923 = .ok (.iaload, 1) := by decide +kernel
theorem dL_law_1924 : decode cL_law 1924 = .ok (.invokevirtual 227, 3) := by decide +kernel
theorem dL_law_1927 : decode cL_law 1927 = .ok (.istore 7, 2) := by decide +kernel
theorem dL_law_1929 : decode cL_law 1929 = .ok (.aload_n 2, 1) := by decide +kernel
theorem dL_law_1930 : decode cL_law 1930 = .ok (.invokevirtual 145, 3) := by decide +kernel
theorem dL_law_1933 : decode cL_law 1933 = .ok (.iload 6, 2) := by decide +kernel
theorem dL_law_1935 : decode cL_law 1935 = .ok (.if_icmp .eq 5, 3) := by decide +kernel
theorem dL_law_1938 : decode cL_law 1938 = .ok (.iconst 0, 1) := by decide +kernel
theorem dL_law_1939 : decode cL_law 1939 = .ok (.ireturn, 1) := by decide +kernel
theorem dL_law_1940 : decode cL_law 1940 = .ok (.iload 6, 2) := by decide +kernel
theorem dL_law_1942 : decode cL_law 1942 = .ok (.ifCond .ne 15, 3) := by decide +kernel
theorem dL_law_1945 : decode cL_law 1945 = .ok (.aload_n 3, 1) := by decide +kernel
theorem dL_law_1946 : decode cL_law 1946 = .ok (.iconst 0, 1) := by decide +kernel
theorem dL_law_1947 : decode cL_law 1947 = .ok (.laload, 1) := by decide +kernel
theorem dL_law_1948 : decode cL_law 1948 = .ok (.iload 7, 2) := by decide +kernel
theorem dL_law_1950 : decode cL_law 1950 = .ok (.i2l, 1) := by decide +kernel
theorem dL_law_1951 : decode cL_law 1951 = .ok (.lcmp, 1) := by decide +kernel
theorem dL_law_1952 : decode cL_law 1952 = .ok (.ifCond .eq 5, 3) := by decide +kernel
theorem dL_law_1955 : decode cL_law 1955 = .ok (.iconst 0, 1) := by decide +kernel
theorem dL_law_1956 : decode cL_law 1956 = .ok (.ireturn, 1) := by decide +kernel
theorem dL_law_1957 : decode cL_law 1957 = .ok (.goto 537, 3) := by decide +kernel
theorem dL_law_1960 : decode cL_law 1960 = .ok (.aload_n 1, 1) := by decide +kernel
theorem dL_law_1961 : decode cL_law 1961 = .ok (.aload_n 0, 1) := by decide +kernel
theorem dL_law_1962 : decode cL_law 1962 = .ok (.iload 5, 2) := by decide +kernel
theorem dL_law_1964 : decode cL_law 1964 = .ok (.iconst 1, 1) := by decide +kernel
theorem dL_law_1965 : decode cL_law 1965 = .ok (.iadd, 1) := by decide +kernel
theorem dL_law_1966 : decode cL_law 1966 = .ok (.iaload, 1) := by decide +kernel
theorem dL_law_1967 : decode cL_law 1967 = .ok (.aload_n 3, 1) := by decide +kernel
theorem dL_law_1968 : decode cL_law 1968 = .ok (.invokestatic 228, 3) := by decide +kernel
theorem dL_law_1971 : decode cL_law 1971 = .ok (.istore 6, 2) := by decide +kernel
theorem dL_law_1973 : decode cL_law 1973 = .ok (.aload_n 2, 1) := by decide +kernel
theorem dL_law_1974 : decode cL_law 1974 = .ok (.aload_n 0, 1) := by decide +kernel
theorem dL_law_1975 : decode cL_law 1975 = .ok (.iload 5, 2) := by decide +kernel
theorem dL_law_1977 : decode cL_law 1977 = .ok (.iconst 1, 1) := by decide +kernel
theorem dL_law_1978 : decode cL_law 1978 = .ok (.iadd, 1) := by decide +kernel
theorem dL_law_1979 : decode cL_law 1979 = .ok (.iaload, 1) := by decide +kernel
theorem dL_law_1980 : decode cL_law 1980 = .ok (.invokevirtual 230, 3) := by decide +kernel
theorem dL_law_1983 : decode cL_law 1983 = .ok (.istore 7, 2) := by decide +kernel
theorem dL_law_1985 : decode cL_law 1985 = .ok (.aload_n 2, 1) := by decide +kernel
theorem dL_law_1986 : decode cL_law 1986 = .ok (.invokevirtual 145, 3) := by decide +kernel
theorem dL_law_1989 : decode cL_law 1989 = .ok (.iload 6, 2) := by decide +kernel
theorem dL_law_1991 : decode cL_law 1991 = .ok (.if_icmp .eq 5, 3) := by decide +kernel
theorem dL_law_1994 : decode cL_law 1994 = .ok (.iconst 0, 1) := by decide +kernel
theorem dL_law_1995 : decode cL_law 1995 = .ok (.ireturn, 1) := by decide +kernel
theorem dL_law_1996 : decode cL_law 1996 = .ok (.iload 6, 2) := by decide +kernel
theorem dL_law_1998 : decode cL_law 1998 = .ok (.ifCond .ne 15, 3) := by decide +kernel
theorem dL_law_2001 : decode cL_law 2001 = .ok (.aload_n 3, 1) := by decide +kernel
theorem dL_law_2002 : decode cL_law 2002 = .ok (.iconst 0, 1) := by decide +kernel
theorem dL_law_2003 : decode cL_law 2003 = .ok (.laload, 1) := by decide +kernel
theorem dL_law_2004 : decode cL_law 2004 = .ok (.iload 7, 2) := by decide +kernel
theorem dL_law_2006 : decode cL_law 2006 = .ok (.i2l, 1) := by decide +kernel
theorem dL_law_2007 : decode cL_law 2007 = .ok (.lcmp, 1) := by decide +kernel
theorem dL_law_2008 : decode cL_law 2008 = .ok (.ifCond .eq 5, 3) := by decide +kernel
theorem dL_law_2011 : decode cL_law 2011 = .ok (.iconst 0, 1) := by decide +kernel
theorem dL_law_2012 : decode cL_law 2012 = .ok (.ireturn, 1) := by decide +kernel
theorem dL_law_2013 : decode cL_law 2013 = .ok (.goto 481, 3) := by decide +kernel
theorem dL_law_2016 : decode cL_law 2016 = .ok (.aload_n 1, 1) := by decide +kernel
theorem dL_law_2017 : decode cL_law 2017 = .ok (.aload_n 0, 1) := by decide +kernel
theorem dL_law_2018 : decode cL_law 2018 = .ok (.iload 5, 2) := by decide +kernel
theorem dL_law_2020 : decode cL_law 2020 = .ok (.iconst 1, 1) := by decide +kernel
theorem dL_law_2021 : decode cL_law 2021 = .ok (.iadd, 1) := by decide +kernel
theorem dL_law_2022 : decode cL_law 2022 = .ok (.iaload, 1) := by decide +kernel
theorem dL_law_2023 : decode cL_law 2023 = .ok (.aload_n 3, 1) := by decide +kernel
theorem dL_law_2024 : decode cL_law 2024 = .ok (.invokestatic 231, 3) := by decide +kernel
theorem dL_law_2027 : decode cL_law 2027 = .ok (.istore 6, 2) := by decide +kernel
theorem dL_law_2029 : decode cL_law 2029 = .ok (.aload_n 2, 1) := by decide +kernel
theorem dL_law_2030 : decode cL_law 2030 = .ok (.aload_n 0, 1) := by decide +kernel
theorem dL_law_2031 : decode cL_law 2031 = .ok (.iload 5, 2) := by decide +kernel
theorem dL_law_2033 : decode cL_law 2033 = .ok (.iconst 1, 1) := by decide +kernel
theorem dL_law_2034 : decode cL_law 2034 = .ok (.iadd, 1) := by decide +kernel
theorem dL_law_2035 : decode cL_law 2035 = .ok (.iaload, 1) := by decide +kernel
theorem dL_law_2036 : decode cL_law 2036 = .ok (.invokevirtual 233, 3) := by decide +kernel
theorem dL_law_2039 : decode cL_law 2039 = .ok (.istore 7, 2) := by decide +kernel
theorem dL_law_2041 : decode cL_law 2041 = .ok (.aload_n 2, 1) := by decide +kernel
theorem dL_law_2042 : decode cL_law 2042 = .ok (.invokevirtual 145, 3) := by decide +kernel
theorem dL_law_2045 : decode cL_law 2045 = .ok (.iload 6, 2) := by decide +kernel
theorem dL_law_2047 : decode cL_law 2047 = .ok (.if_icmp .eq 5, 3) := by decide +kernel
theorem dL_law_2050 : decode cL_law 2050 = .ok (.iconst 0, 1) := by decide +kernel
theorem dL_law_2051 : decode cL_law 2051 = .ok (.ireturn, 1) := by decide +kernel
theorem dL_law_2052 : decode cL_law 2052 = .ok (.iload 6, 2) := by decide +kernel
theorem dL_law_2054 : decode cL_law 2054 = .ok (.ifCond .ne 15, 3) := by decide +kernel
theorem dL_law_2057 : decode cL_law 2057 = .ok (.aload_n 3, 1) := by decide +kernel
theorem dL_law_2058 : decode cL_law 2058 = .ok (.iconst 0, 1) := by decide +kernel
theorem dL_law_2059 : decode cL_law 2059 = .ok (.laload, 1) := by decide +kernel
theorem dL_law_2060 : decode cL_law 2060 = .ok (.iload 7, 2) := by decide +kernel
theorem dL_law_2062 : decode cL_law 2062 = .ok (.i2l, 1) := by decide +kernel
theorem dL_law_2063 : decode cL_law 2063 = .ok (.lcmp, 1) := by decide +kernel
theorem dL_law_2064 : decode cL_law 2064 = .ok (.ifCond .eq 5, 3) := by decide +kernel
theorem dL_law_2067 : decode cL_law 2067 = .ok (.iconst 0, 1) := by decide +kernel
theorem dL_law_2068 : decode cL_law 2068 = .ok (.ireturn, 1) := by decide +kernel
theorem dL_law_2069 : decode cL_law 2069 = .ok (.goto 425, 3) := by decide +kernel
theorem dL_law_2072 : decode cL_law 2072 = .ok (.aload_n 1, 1) := by decide +kernel
theorem dL_law_2073 : decode cL_law 2073 = .ok (.aload_n 0, 1) := by decide +kernel
theorem dL_law_2074 : decode cL_law 2074 = .ok (.iload 5, 2) := by decide +kernel
theorem dL_law_2076 : decode cL_law 2076 = .ok (.iconst 1, 1) := by decide +kernel
theorem dL_law_2077 : decode cL_law 2077 = .ok (.iadd, 1) := by decide +kernel
theorem dL_law_2078 : decode cL_law 2078 = .ok (.iaload, 1) := by decide +kernel
theorem dL_law_2079 : decode cL_law 2079 = .ok (.i2c, 1) := by decide +kernel
theorem dL_law_2080 : decode cL_law 2080 = .ok (.aload_n 3, 1) := by decide +kernel
theorem dL_law_2081 : decode cL_law 2081 = .ok (.invokestatic 234, 3) := by decide +kernel
theorem dL_law_2084 : decode cL_law 2084 = .ok (.istore 6, 2) := by decide +kernel
theorem dL_law_2086 : decode cL_law 2086 = .ok (.aload_n 2, 1) := by decide +kernel
theorem dL_law_2087 : decode cL_law 2087 = .ok (.aload_n 0, 1) := by decide +kernel
theorem dL_law_2088 : decode cL_law 2088 = .ok (.iload 5, 2) := by decide +kernel
theorem dL_law_2090 : decode cL_law 2090 = .ok (.iconst 1, 1) := by decide +kernel
theorem dL_law_2091 : decode cL_law 2091 = .ok (.iadd, 1) := by decide +kernel
theorem dL_law_2092 : decode cL_law 2092 = .ok (.iaload, 1) := by decide +kernel
theorem dL_law_2093 : decode cL_law 2093 = .ok (.i2c, 1) := by decide +kernel
theorem dL_law_2094 : decode cL_law 2094 = .ok (.invokevirtual 237, 3) := by decide +kernel
theorem dL_law_2097 : decode cL_law 2097 = .ok (.istore 7, 2) := by decide +kernel
theorem dL_law_2099 : decode cL_law 2099 = .ok (.aload_n 2, 1) := by decide +kernel
theorem dL_law_2100 : decode cL_law 2100 = .ok (.invokevirtual 145, 3) := by decide +kernel
theorem dL_law_2103 : decode cL_law 2103 = .ok (.iload 6, 2) := by decide +kernel
theorem dL_law_2105 : decode cL_law 2105 = .ok (.if_icmp .eq 5, 3) := by decide +kernel
theorem dL_law_2108 : decode cL_law 2108 = .ok (.iconst 0, 1) := by decide +kernel
theorem dL_law_2109 : decode cL_law 2109 = .ok (.ireturn, 1) := by decide +kernel
theorem dL_law_2110 : decode cL_law 2110 = .ok (.iload 6, 2) := by decide +kernel
theorem dL_law_2112 : decode cL_law 2112 = .ok (.ifCond .ne 15, 3) := by decide +kernel
theorem dL_law_2115 : decode cL_law 2115 = .ok (.aload_n 3, 1) := by decide +kernel
theorem dL_law_2116 : decode cL_law 2116 = .ok (.iconst 0, 1) := by decide +kernel
theorem dL_law_2117 : decode cL_law 2117 = .ok (.laload, 1) := by decide +kernel
theorem dL_law_2118 : decode cL_law 2118 = .ok (.iload 7, 2) := by decide +kernel
theorem dL_law_2120 : decode cL_law 2120 = .ok (.i2l, 1) := by decide +kernel
theorem dL_law_2121 : decode cL_law 2121 = .ok (.lcmp, 1) := by decide +kernel
theorem dL_law_2122 : decode cL_law 2122 = .ok (.ifCond .eq 5, 3) := by decide +kernel
theorem dL_law_2125 : decode cL_law 2125 = .ok (.iconst 0, 1) := by decide +kernel
theorem dL_law_2126 : decode cL_law 2126 = .ok (.ireturn, 1) := by decide +kernel
theorem dL_law_2127 : decode cL_law 2127 = .ok (.goto 367, 3) := by decide +kernel
theorem dL_law_2130 : decode cL_law 2130 = .ok (.aload_n 1, 1) := by decide +kernel
theorem dL_law_2131 : decode cL_law 2131 = .ok (.aload_n 3, 1) := by decide +kernel
theorem dL_law_2132 : decode cL_law 2132 = .ok (.invokestatic 238, 3) := by decide +kernel
theorem dL_law_2135 : decode cL_law 2135 = .ok (.istore 6, 2) := by decide +kernel
theorem dL_law_2137 : decode cL_law 2137 = .ok (.aload_n 2, 1) := by decide +kernel
theorem dL_law_2138 : decode cL_law 2138 = .ok (.invokevirtual 241, 3) := by decide +kernel
theorem dL_law_2141 : decode cL_law 2141 = .ok (.istore 7, 2) := by decide +kernel
theorem dL_law_2143 : decode cL_law 2143 = .ok (.aload_n 2, 1) := by decide +kernel
theorem dL_law_2144 : decode cL_law 2144 = .ok (.invokevirtual 145, 3) := by decide +kernel
theorem dL_law_2147 : decode cL_law 2147 = .ok (.iload 6, 2) := by decide +kernel
theorem dL_law_2149 : decode cL_law 2149 = .ok (.if_icmp .eq 5, 3) := by decide +kernel
theorem dL_law_2152 : decode cL_law 2152 = .ok (.iconst 0, 1) := by decide +kernel
theorem dL_law_2153 : decode cL_law 2153 = .ok (.ireturn, 1) := by decide +kernel
theorem dL_law_2154 : decode cL_law 2154 = .ok (.iload 6, 2) := by decide +kernel
theorem dL_law_2156 : decode cL_law 2156 = .ok (.ifCond .ne 15, 3) := by decide +kernel
theorem dL_law_2159 : decode cL_law 2159 = .ok (.aload_n 3, 1) := by decide +kernel
theorem dL_law_2160 : decode cL_law 2160 = .ok (.iconst 0, 1) := by decide +kernel
theorem dL_law_2161 : decode cL_law 2161 = .ok (.laload, 1) := by decide +kernel
theorem dL_law_2162 : decode cL_law 2162 = .ok (.iload 7, 2) := by decide +kernel
theorem dL_law_2164 : decode cL_law 2164 = .ok (.i2l, 1) := by decide +kernel
theorem dL_law_2165 : decode cL_law 2165 = .ok (.lcmp, 1) := by decide +kernel
theorem dL_law_2166 : decode cL_law 2166 = .ok (.ifCond .eq 5, 3) := by decide +kernel
theorem dL_law_2169 : decode cL_law 2169 = .ok (.iconst 0, 1) := by decide +kernel
theorem dL_law_2170 : decode cL_law 2170 = .ok (.ireturn, 1) := by decide +kernel
theorem dL_law_2171 : decode cL_law 2171 = .ok (.goto 323, 3) := by decide +kernel
theorem dL_law_2174 : decode cL_law 2174 = .ok (.aload_n 1, 1) := by decide +kernel
theorem dL_law_2175 : decode cL_law 2175 = .ok (.invokevirtual 242, 3) := by decide +kernel
theorem dL_law_2178 : decode cL_law 2178 = .ok (.aload_n 2, 1) := by decide +kernel
theorem dL_law_2179 : decode cL_law 2179 = .ok (.invokevirtual 245, 3) := by decide +kernel
theorem dL_law_2182 : decode cL_law 2182 = .ok (.if_icmp .eq 312, 3) := by decide +kernel
theorem dL_law_2185 : decode cL_law 2185 = .ok (.iconst 0, 1) := by decide +kernel
theorem dL_law_2186 : decode cL_law 2186 = .ok (.ireturn, 1) := by decide +kernel
theorem dL_law_2187 : decode cL_law 2187 = .ok (.aload_n 1, 1) := by decide +kernel
theorem dL_law_2188 : decode cL_law 2188 = .ok (.aload_n 0, 1) := by decide +kernel
theorem dL_law_2189 : decode cL_law 2189 = .ok (.iload 5, 2) := by decide +kernel
theorem dL_law_2191 : decode cL_law 2191 = .ok (.iconst 1, 1) := by decide +kernel
theorem dL_law_2192 : decode cL_law 2192 = .ok (.iadd, 1) := by decide +kernel
theorem dL_law_2193 : decode cL_law 2193 = .ok (.iaload, 1) := by decide +kernel
theorem dL_law_2194 : decode cL_law 2194 = .ok (.ifCond .eq 7, 3) := by decide +kernel
theorem dL_law_2197 : decode cL_law 2197 = .ok (.iconst 1, 1) := by decide +kernel
theorem dL_law_2198 : decode cL_law 2198 = .ok (.goto 4, 3) := by decide +kernel
theorem dL_law_2201 : decode cL_law 2201 = .ok (.iconst 0, 1) := by decide +kernel
theorem dL_law_2202 : decode cL_law 2202 = .ok (.aload_n 3, 1) := by decide +kernel
theorem dL_law_2203 : decode cL_law 2203 = .ok (.invokestatic 246, 3) := by decide +kernel
theorem dL_law_2206 : decode cL_law 2206 = .ok (.istore 6, 2) := by decide +kernel
theorem dL_law_2208 : decode cL_law 2208 = .ok (.aload_n 2, 1) := by decide +kernel
theorem dL_law_2209 : decode cL_law 2209 = .ok (.aload_n 0, 1) := by decide +kernel
theorem dL_law_2210 : decode cL_law 2210 = .ok (.iload 5, 2) := by decide +kernel
theorem dL_law_2212 : decode cL_law 2212 = .ok (.iconst 1, 1) := by decide +kernel
theorem dL_law_2213 : decode cL_law 2213 = .ok (.iadd, 1) := by decide +kernel
theorem dL_law_2214 : decode cL_law 2214 = .ok (.iaload, 1) := by decide +kernel
theorem dL_law_2215 : decode cL_law 2215 = .ok (.ifCond .eq 7, 3) := by decide +kernel
theorem dL_law_2218 : decode cL_law 2218 = .ok (.iconst 1, 1) := by decide +kernel
theorem dL_law_2219 : decode cL_law 2219 = .ok (.goto 4, 3) := by decide +kernel
theorem dL_law_2222 : decode cL_law 2222 = .ok (.iconst 0, 1) := by decide +kernel
theorem dL_law_2223 : decode cL_law 2223 = .ok (.invokevirtual 249, 3) := by decide +kernel
theorem dL_law_2226 : decode cL_law 2226 = .ok (.istore 7, 2) := by decide +kernel
theorem dL_law_2228 : decode cL_law 2228 = .ok (.aload_n 2, 1) := by decide +kernel
theorem dL_law_2229 : decode cL_law 2229 = .ok (.invokevirtual 145, 3) := by decide +kernel
theorem dL_law_2232 : decode cL_law 2232 = .ok (.iload 6, 2) := by decide +kernel
theorem dL_law_2234 : decode cL_law 2234 = .ok (.if_icmp .eq 5, 3) := by decide +kernel
theorem dL_law_2237 : decode cL_law 2237 = .ok (.iconst 0, 1) := by decide +kernel
theorem dL_law_2238 : decode cL_law 2238 = .ok (.ireturn, 1) := by decide +kernel
theorem dL_law_2239 : decode cL_law 2239 = .ok (.iload 6, 2) := by decide +kernel
theorem dL_law_2241 : decode cL_law 2241 = .ok (.ifCond .ne 15, 3) := by decide +kernel
theorem dL_law_2244 : decode cL_law 2244 = .ok (.aload_n 3, 1) := by decide +kernel
theorem dL_law_2245 : decode cL_law 2245 = .ok (.iconst 0, 1) := by decide +kernel
theorem dL_law_2246 : decode cL_law 2246 = .ok (.laload, 1) := by decide +kernel
theorem dL_law_2247 : decode cL_law 2247 = .ok (.iload 7, 2) := by decide +kernel
theorem dL_law_2249 : decode cL_law 2249 = .ok (.i2l, 1) := by decide +kernel
theorem dL_law_2250 : decode cL_law 2250 = .ok (.lcmp, 1) := by decide +kernel
theorem dL_law_2251 : decode cL_law 2251 = .ok (.ifCond .eq 5, 3) := by decide +kernel
theorem dL_law_2254 : decode cL_law 2254 = .ok (.iconst 0, 1) := by decide +kernel
theorem dL_law_2255 : decode cL_law 2255 = .ok (.ireturn, 1) := by decide +kernel
theorem dL_law_2256 : decode cL_law 2256 = .ok (.goto 238, 3) := by decide +kernel
theorem dL_law_2259 : decode cL_law 2259 = .ok (.aload_n 1, 1) := by decide +kernel
theorem dL_law_2260 : decode cL_law 2260 = .ok (.aload_n 0, 1) := by decide +kernel
theorem dL_law_2261 : decode cL_law 2261 = .ok (.iload 5, 2) := by decide +kernel
theorem dL_law_2263 : decode cL_law 2263 = .ok (.iconst 1, 1) := by decide +kernel
theorem dL_law_2264 : decode cL_law 2264 = .ok (.iadd, 1) := by decide +kernel
theorem dL_law_2265 : decode cL_law 2265 = .ok (.iaload, 1) := by decide +kernel
theorem dL_law_2266 : decode cL_law 2266 = .ok (.aload_n 3, 1) := by decide +kernel
theorem dL_law_2267 : decode cL_law 2267 = .ok (.invokestatic 250, 3) := by decide +kernel
theorem dL_law_2270 : decode cL_law 2270 = .ok (.istore 6, 2) := by decide +kernel
theorem dL_law_2272 : decode cL_law 2272 = .ok (.aload_n 2, 1) := by decide +kernel
theorem dL_law_2273 : decode cL_law 2273 = .ok (.aload_n 0, 1) := by decide +kernel
theorem dL_law_2274 : decode cL_law 2274 = .ok (.iload 5, 2) := by decide +kernel
theorem dL_law_2276 : decode cL_law 2276 = .ok (.iconst 1, 1) := by decide +kernel
theorem dL_law_2277 : decode cL_law 2277 = .ok (.iadd, 1) := by decide +kernel
theorem dL_law_2278 : decode cL_law 2278 = .ok (.iaload, 1) := by decide +kernel
theorem dL_law_2279 : decode cL_law 2279 = .ok (.invokevirtual 252, 3) := by decide +kernel
theorem dL_law_2282 : decode cL_law 2282 = .ok (.istore 7, 2) := by decide +kernel
theorem dL_law_2284 : decode cL_law 2284 = .ok (.aload_n 2, 1) := by decide +kernel
theorem dL_law_2285 : decode cL_law 2285 = .ok (.invokevirtual 145, 3) := by decide +kernel
theorem dL_law_2288 : decode cL_law 2288 = .ok (.iload 6, 2) := by decide +kernel
theorem dL_law_2290 : decode cL_law 2290 = .ok (.if_icmp .eq 5, 3) := by decide +kernel
theorem dL_law_2293 : decode cL_law 2293 = .ok (.iconst 0, 1) := by decide +kernel
theorem dL_law_2294 : decode cL_law 2294 = .ok (.ireturn, 1) := by decide +kernel
theorem dL_law_2295 : decode cL_law 2295 = .ok (.iload 6, 2) := by decide +kernel
theorem dL_law_2297 : decode cL_law 2297 = .ok (.ifCond .ne 15, 3) := by decide +kernel
theorem dL_law_2300 : decode cL_law 2300 = .ok (.aload_n 3, 1) := by decide +kernel
theorem dL_law_2301 : decode cL_law 2301 = .ok (.iconst 0, 1) := by decide +kernel
theorem dL_law_2302 : decode cL_law 2302 = .ok (.laload, 1) := by decide +kernel
theorem dL_law_2303 : decode cL_law 2303 = .ok (.iload 7, 2) := by decide +kernel
theorem dL_law_2305 : decode cL_law 2305 = .ok (.i2l, 1) := by decide +kernel
theorem dL_law_2306 : decode cL_law 2306 = .ok (.lcmp, 1) := by decide +kernel
theorem dL_law_2307 : decode cL_law 2307 = .ok (.ifCond .eq 5, 3) := by decide +kernel
theorem dL_law_2310 : decode cL_law 2310 = .ok (.iconst 0, 1) := by decide +kernel
theorem dL_law_2311 : decode cL_law 2311 = .ok (.ireturn, 1) := by decide +kernel
theorem dL_law_2312 : decode cL_law 2312 = .ok (.goto 182, 3) := by decide +kernel
theorem dL_law_2315 : decode cL_law 2315 = .ok (.aload_n 1, 1) := by decide +kernel
theorem dL_law_2316 : decode cL_law 2316 = .ok (.invokevirtual 253, 3) := by decide +kernel
theorem dL_law_2319 : decode cL_law 2319 = .ok (.aload_n 2, 1) := by decide +kernel
theorem dL_law_2320 : decode cL_law 2320 = .ok (.invokevirtual 257, 3) := by decide +kernel
theorem dL_law_2323 : decode cL_law 2323 = .ok (.if_icmp .eq 171, 3) := by decide +kernel
theorem dL_law_2326 : decode cL_law 2326 = .ok (.iconst 0, 1) := by decide +kernel
theorem dL_law_2327 : decode cL_law 2327 = .ok (.ireturn, 1) := by decide +kernel
theorem dL_law_2328 : decode cL_law 2328 = .ok (.aload_n 1, 1) := by decide +kernel
theorem dL_law_2329 : decode cL_law 2329 = .ok (.aload 4, 2) := by decide +kernel
theorem dL_law_2331 : decode cL_law 2331 = .ok (.invokestatic 258, 3) := by decide +kernel
theorem dL_law_2334 : decode cL_law 2334 = .ok (.istore 6, 2) := by decide +kernel
theorem dL_law_2336 : decode cL_law 2336 = .ok (.aload_n 2, 1) := by decide +kernel
theorem dL_law_2337 : decode cL_law 2337 = .ok (.invokevirtual 261, 3) := by decide +kernel
theorem dL_law_2340 : decode cL_law 2340 = .ok (.dstore 7, 2) := by decide +kernel
theorem dL_law_2342 : decode cL_law 2342 = .ok (.aload_n 2, 1) := by decide +kernel
theorem dL_law_2343 : decode cL_law 2343 = .ok (.invokevirtual 145, 3) := by decide +kernel
theorem dL_law_2346 : decode cL_law 2346 = .ok (.iload 6, 2) := by decide +kernel
theorem dL_law_2348 : decode cL_law 2348 = .ok (.if_icmp .eq 5, 3) := by decide +kernel
theorem dL_law_2351 : decode cL_law 2351 = .ok (.iconst 0, 1) := by decide +kernel
theorem dL_law_2352 : decode cL_law 2352 = .ok (.ireturn, 1) := by decide +kernel
theorem dL_law_2353 : decode cL_law 2353 = .ok (.iload 6, 2) := by decide +kernel
theorem dL_law_2355 : decode cL_law 2355 = .ok (.ifCond .ne 35, 3) := by decide +kernel
theorem dL_law_2358 : decode cL_law 2358 = .ok (.aload 4, 2) := by decide +kernel
theorem dL_law_2360 : decode cL_law 2360 = .ok (.iconst 0, 1) := by decide +kernel
theorem dL_law_2361 : decode cL_law 2361 = .ok (.daload, 1) := by decide +kernel
theorem dL_law_2362 : decode cL_law 2362 = .ok (.dload 7, 2) := by decide +kernel
theorem dL_law_2364 : decode cL_law 2364 = .ok (.dcmp .l, 1) := by decide +kernel
theorem dL_law_2365 : decode cL_law 2365 = .ok (.ifCond .eq 25, 3) := by decide +kernel
theorem dL_law_2368 : decode cL_law 2368 = .ok (.aload 4, 2) := by decide +kernel
theorem dL_law_2370 : decode cL_law 2370 = .ok (.iconst 0, 1) := by decide +kernel
theorem dL_law_2371 : decode cL_law 2371 = .ok (.daload, 1) := by decide +kernel
theorem dL_law_2372 : decode cL_law 2372 = .ok (.aload 4, 2) := by decide +kernel
theorem dL_law_2374 : decode cL_law 2374 = .ok (.iconst 0, 1) := by decide +kernel
theorem dL_law_2375 : decode cL_law 2375 = .ok (.daload, 1) := by decide +kernel
theorem dL_law_2376 : decode cL_law 2376 = .ok (.dcmp .l, 1) := by decide +kernel
theorem dL_law_2377 : decode cL_law 2377 = .ok (.ifCond .eq 11, 3) := by decide +kernel
theorem dL_law_2380 : decode cL_law 2380 = .ok (.dload 7, 2) := by decide +kernel
theorem dL_law_2382 : decode cL_law 2382 = .ok (.dload 7, 2) := by decide +kernel
theorem dL_law_2384 : decode cL_law 2384 = .ok (.dcmp .l, 1) := by decide +kernel
theorem dL_law_2385 : decode cL_law 2385 = .ok (.ifCond .ne 5, 3) := by decide +kernel
theorem dL_law_2388 : decode cL_law 2388 = .ok (.iconst 0, 1) := by decide +kernel
theorem dL_law_2389 : decode cL_law 2389 = .ok (.ireturn, 1) := by decide +kernel
theorem dL_law_2390 : decode cL_law 2390 = .ok (.goto 104, 3) := by decide +kernel
theorem dL_law_2393 : decode cL_law 2393 = .ok (.aload_n 1, 1) := by decide +kernel
theorem dL_law_2394 : decode cL_law 2394 = .ok (.aload_n 3, 1) := by decide +kernel
theorem dL_law_2395 : decode cL_law 2395 = .ok (.invokestatic 262, 3) := by decide +kernel
theorem dL_law_2398 : decode cL_law 2398 = .ok (.istore 6, 2) := by decide +kernel
theorem dL_law_2400 : decode cL_law 2400 = .ok (.aload_n 2, 1) := by decide +kernel
theorem dL_law_2401 : decode cL_law 2401 = .ok (.invokevirtual 264, 3) := by decide +kernel
theorem dL_law_2404 : decode cL_law 2404 = .ok (.istore 7, 2) := by decide +kernel
theorem dL_law_2406 : decode cL_law 2406 = .ok (.aload_n 2, 1) := by decide +kernel
theorem dL_law_2407 : decode cL_law 2407 = .ok (.invokevirtual 145, 3) := by decide +kernel
theorem dL_law_2410 : decode cL_law 2410 = .ok (.iload 6, 2) := by decide +kernel
theorem dL_law_2412 : decode cL_law 2412 = .ok (.if_icmp .eq 5, 3) := by decide +kernel
theorem dL_law_2415 : decode cL_law 2415 = .ok (.iconst 0, 1) := by decide +kernel
theorem dL_law_2416 : decode cL_law 2416 = .ok (.ireturn, 1) := by decide +kernel
theorem dL_law_2417 : decode cL_law 2417 = .ok (.iload 6, 2) := by decide +kernel
theorem dL_law_2419 : decode cL_law 2419 = .ok (.ifCond .ne 15, 3) := by decide +kernel
theorem dL_law_2422 : decode cL_law 2422 = .ok (.aload_n 3, 1) := by decide +kernel
theorem dL_law_2423 : decode cL_law 2423 = .ok (.iconst 0, 1) := by decide +kernel
theorem dL_law_2424 : decode cL_law 2424 = .ok (.laload, 1) := by decide +kernel
theorem dL_law_2425 : decode cL_law 2425 = .ok (.iload 7, 2) := by decide +kernel
theorem dL_law_2427 : decode cL_law 2427 = .ok (.i2l, 1) := by decide +kernel
theorem dL_law_2428 : decode cL_law 2428 = .ok (.lcmp, 1) := by decide +kernel
theorem dL_law_2429 : decode cL_law 2429 = .ok (.ifCond .eq 5, 3) := by decide +kernel
theorem dL_law_2432 : decode cL_law 2432 = .ok (.iconst 0, 1) := by decide +kernel
theorem dL_law_2433 : decode cL_law 2433 = .ok (.ireturn, 1) := by decide +kernel
theorem dL_law_2434 : decode cL_law 2434 = .ok (.goto 60, 3) := by decide +kernel
theorem dL_law_2437 : decode cL_law 2437 = .ok (.aload_n 1, 1) := by decide +kernel
theorem dL_law_2438 : decode cL_law 2438 = .ok (.invokevirtual 265, 3) := by decide +kernel
theorem dL_law_2441 : decode cL_law 2441 = .ok (.aload_n 2, 1) := by decide +kernel
theorem dL_law_2442 : decode cL_law 2442 = .ok (.invokevirtual 268, 3) := by decide +kernel
theorem dL_law_2445 : decode cL_law 2445 = .ok (.if_icmp .eq 49, 3) := by decide +kernel
theorem dL_law_2448 : decode cL_law 2448 = .ok (.iconst 0, 1) := by decide +kernel
theorem dL_law_2449 : decode cL_law 2449 = .ok (.ireturn, 1) := by decide +kernel
theorem dL_law_2450 : decode cL_law 2450 = .ok (.aload_n 1, 1) := by decide +kernel
theorem dL_law_2451 : decode cL_law 2451 = .ok (.aload_n 3, 1) := by decide +kernel
theorem dL_law_2452 : decode cL_law 2452 = .ok (.invokestatic 269, 3) := by decide +kernel
theorem dL_law_2455 : decode cL_law 2455 = .ok (.istore 6, 2) := by decide +kernel
theorem dL_law_2457 : decode cL_law 2457 = .ok (.aload_n 2, 1) := by decide +kernel
theorem dL_law_2458 : decode cL_law 2458 = .ok (.invokevirtual 271, 3) := by decide +kernel
theorem dL_law_2461 : decode cL_law 2461 = .ok (.istore 7, 2) := by decide +kernel
theorem dL_law_2463 : decode cL_law 2463 = .ok (.aload_n 2, 1) := by decide +kernel
theorem dL_law_2464 : decode cL_law 2464 = .ok (.invokevirtual 145, 3) := by decide +kernel
theorem dL_law_2467 : decode cL_law 2467 = .ok (.iload 6, 2) := by decide +kernel
theorem dL_law_2469 : decode cL_law 2469 = .ok (.if_icmp .eq 5, 3) := by decide +kernel
theorem dL_law_2472 : decode cL_law 2472 = .ok (.iconst 0, 1) := by decide +kernel
theorem dL_law_2473 : decode cL_law 2473 = .ok (.ireturn, 1) := by decide +kernel
theorem dL_law_2474 : decode cL_law 2474 = .ok (.iload 6, 2) := by decide +kernel
theorem dL_law_2476 : decode cL_law 2476 = .ok (.ifCond .ne 15, 3) := by decide +kernel
theorem dL_law_2479 : decode cL_law 2479 = .ok (.aload_n 3, 1) := by decide +kernel
theorem dL_law_2480 : decode cL_law 2480 = .ok (.iconst 0, 1) := by decide +kernel
theorem dL_law_2481 : decode cL_law 2481 = .ok (.laload, 1) := by decide +kernel
theorem dL_law_2482 : decode cL_law 2482 = .ok (.iload 7, 2) := by decide +kernel
theorem dL_law_2484 : decode cL_law 2484 = .ok (.i2l, 1) := by decide +kernel
theorem dL_law_2485 : decode cL_law 2485 = .ok (.lcmp, 1) := by decide +kernel
theorem dL_law_2486 : decode cL_law 2486 = .ok (.ifCond .eq 5, 3) := by decide +kernel
theorem dL_law_2489 : decode cL_law 2489 = .ok (.iconst 0, 1) := by decide +kernel
theorem dL_law_2490 : decode cL_law 2490 = .ok (.ireturn, 1) := by decide +kernel
theorem dL_law_2491 : decode cL_law 2491 = .ok (.goto 3, 3) := by decide +kernel
theorem dL_law_2494 : decode cL_law 2494 = .ok (.iinc 5 4, 3) := by decide +kernel
theorem dL_law_2497 : decode cL_law 2497 = .ok (.goto (-2469), 3) := by decide +kernel
theorem dL_law_2500 : decode cL_law 2500 = .ok (.iconst 1, 1) := by decide +kernel
theorem dL_law_2501 : decode cL_law 2501 = .ok (.ireturn, 1) := by decide +kernel
