/-! ===== BEGIN words of one list among another's, by their places ===== -/
/-! ===== END ===== -/

/-! ===== BEGIN printed: names, fields, word lists, decode rows ===== -/
def RX0 : String := "EmbargoDesk$Client"
def TX0 : u_T := fun k => match k with
  | 0 => ("EmbargoDesk$Client", "topics", "I", false)
  | 1 => ("EmbargoDesk$Client", "delay", "I", false)
  | 2 => ("EmbargoDesk$Client", "lag", "I", false)
  | 3 => ("EmbargoDesk$Client", "limit", "I", false)
  | 4 => ("EmbargoDesk$Client", "fee", "I", false)
  | 5 => ("EmbargoDesk$Client", "up", "Z", false)
  | 6 => ("EmbargoDesk$Client", "owed", "I", false)
  | 7 => ("EmbargoDesk$Client", "today", "I", false)
  | 8 => ("EmbargoDesk$Client", "total", "I", false)
  | _ => ("EmbargoDesk$Client", "unbilled", "I", false)
def tyX0 : Nat → FieldType := fun k => match k with
  | 0 => .int
  | 1 => .int
  | 2 => .int
  | 3 => .int
  | 4 => .int
  | 5 => .boolean
  | 6 => .int
  | 7 => .int
  | 8 => .int
  | _ => .int
abbrev wsX00 : List Cond := u_ws RX0 TX0 10
theorem nmX0 : ∀ a, a < 10 → ∀ b, b < 10 → a ≠ b → (TX0 a).2.1 ≠ (TX0 b).2.1 := by decide +kernel
theorem tyX0_ok : ∀ k, k < 10 → parseFieldDescriptor (TX0 k).2.2.1 = some (tyX0 k) := by decide +kernel
abbrev cX0_init : ByteArray := prog_2_method_1_code
def yX0_init : MethodName := ⟨RX0, "<init>", "()V"⟩
abbrev cX0_begin : ByteArray := prog_2_method_2_code
def yX0_begin : MethodName := ⟨RX0, "begin", "(IIIII)V"⟩
abbrev cX0_copyFrom : ByteArray := prog_2_method_3_code
def yX0_copyFrom : MethodName := ⟨RX0, "copyFrom", "(LEmbargoDesk$Client;)V"⟩
abbrev cX0_hasTopic : ByteArray := prog_2_method_4_code
def yX0_hasTopic : MethodName := ⟨RX0, "hasTopic", "(I)Z"⟩
abbrev cX0_canGetCopy : ByteArray := prog_2_method_5_code
def yX0_canGetCopy : MethodName := ⟨RX0, "canGetCopy", "()Z"⟩
def RX1 : String := "EmbargoDesk$Copy"
def TX1 : u_T := fun k => match k with
  | 0 => ("EmbargoDesk$Copy", "story", "I", false)
  | 1 => ("EmbargoDesk$Copy", "client", "I", false)
  | 2 => ("EmbargoDesk$Copy", "state", "I", false)
  | 3 => ("EmbargoDesk$Copy", "due", "I", false)
  | 4 => ("EmbargoDesk$Copy", "startedAt", "I", false)
  | _ => ("EmbargoDesk$Copy", "version", "I", false)
def tyX1 : Nat → FieldType := fun k => match k with
  | 0 => .int
  | 1 => .int
  | 2 => .int
  | 3 => .int
  | 4 => .int
  | _ => .int
abbrev wsX10 : List Cond := u_ws RX1 TX1 6
theorem nmX1 : ∀ a, a < 6 → ∀ b, b < 6 → a ≠ b → (TX1 a).2.1 ≠ (TX1 b).2.1 := by decide +kernel
theorem tyX1_ok : ∀ k, k < 6 → parseFieldDescriptor (TX1 k).2.2.1 = some (tyX1 k) := by decide +kernel
abbrev cX1_init : ByteArray := prog_3_method_1_code
def yX1_init : MethodName := ⟨RX1, "<init>", "()V"⟩
abbrev cX1_begin : ByteArray := prog_3_method_2_code
def yX1_begin : MethodName := ⟨RX1, "begin", "(III)V"⟩
abbrev cX1_isOver : ByteArray := prog_3_method_3_code
def yX1_isOver : MethodName := ⟨RX1, "isOver", "()Z"⟩
abbrev cX1_copyFrom : ByteArray := prog_3_method_4_code
def yX1_copyFrom : MethodName := ⟨RX1, "copyFrom", "(LEmbargoDesk$Copy;)V"⟩
def RX2 : String := "EmbargoDesk$History"
def TX2 : u_T := fun k => match k with
  | 0 => ("EmbargoDesk$History", "rows", "[LEmbargoDesk$State;", true)
  | _ => ("EmbargoDesk$History", "size", "I", false)
def tyX2 : Nat → FieldType := fun k => match k with
  | 0 => .array (.object "EmbargoDesk$State")
  | _ => .int
abbrev wsX20 : List Cond := u_ws RX2 TX2 2
theorem nmX2 : ∀ a, a < 2 → ∀ b, b < 2 → a ≠ b → (TX2 a).2.1 ≠ (TX2 b).2.1 := by decide +kernel
theorem tyX2_ok : ∀ k, k < 2 → parseFieldDescriptor (TX2 k).2.2.1 = some (tyX2 k) := by decide +kernel
abbrev cX2_init : ByteArray := prog_4_method_1_code
def yX2_init : MethodName := ⟨RX2, "<init>", "()V"⟩
abbrev cX2_remember : ByteArray := prog_4_method_2_code
def yX2_remember : MethodName := ⟨RX2, "remember", "(LEmbargoDesk$State;)V"⟩
abbrev cX2_dropOldest : ByteArray := prog_4_method_3_code
def yX2_dropOldest : MethodName := ⟨RX2, "dropOldest", "()V"⟩
abbrev cX2_takeLatest : ByteArray := prog_4_method_4_code
def yX2_takeLatest : MethodName := ⟨RX2, "takeLatest", "(LEmbargoDesk$State;)V"⟩
def RX3 : String := "EmbargoDesk$Log"
def TX3 : u_T := fun k => match k with
  | 0 => ("EmbargoDesk$Log", "cells", "[I", true)
  | 1 => ("EmbargoDesk$Log", "newest", "I", false)
  | _ => ("EmbargoDesk$Log", "size", "I", false)
def tyX3 : Nat → FieldType := fun k => match k with
  | 0 => .array .int
  | 1 => .int
  | _ => .int
abbrev wsX30 : List Cond := u_ws RX3 TX3 3
theorem nmX3 : ∀ a, a < 3 → ∀ b, b < 3 → a ≠ b → (TX3 a).2.1 ≠ (TX3 b).2.1 := by decide +kernel
theorem tyX3_ok : ∀ k, k < 3 → parseFieldDescriptor (TX3 k).2.2.1 = some (tyX3 k) := by decide +kernel
abbrev cX3_init : ByteArray := prog_5_method_1_code
def yX3_init : MethodName := ⟨RX3, "<init>", "()V"⟩
abbrev cX3_add : ByteArray := prog_5_method_2_code
def yX3_add : MethodName := ⟨RX3, "add", "(IIII)V"⟩
abbrev cX3_copyFrom : ByteArray := prog_5_method_4_code
def yX3_copyFrom : MethodName := ⟨RX3, "copyFrom", "(LEmbargoDesk$Log;)V"⟩
def RX4 : String := "EmbargoDesk$Person"
def TX4 : u_T := fun k => match k with
  | 0 => ("EmbargoDesk$Person", "got", "I", false)
  | _ => ("EmbargoDesk$Person", "lost", "I", false)
def tyX4 : Nat → FieldType := fun k => match k with
  | 0 => .int
  | _ => .int
abbrev wsX40 : List Cond := u_ws RX4 TX4 2
theorem nmX4 : ∀ a, a < 2 → ∀ b, b < 2 → a ≠ b → (TX4 a).2.1 ≠ (TX4 b).2.1 := by decide +kernel
theorem tyX4_ok : ∀ k, k < 2 → parseFieldDescriptor (TX4 k).2.2.1 = some (tyX4 k) := by decide +kernel
abbrev cX4_init : ByteArray := prog_6_method_1_code
def yX4_init : MethodName := ⟨RX4, "<init>", "()V"⟩
abbrev cX4_addShare : ByteArray := prog_6_method_2_code
def yX4_addShare : MethodName := ⟨RX4, "addShare", "(I)V"⟩
def RX5 : String := "EmbargoDesk$State"
def TX5 : u_T := fun k => match k with
  | 0 => ("EmbargoDesk$State", "hour", "I", false)
  | 1 => ("EmbargoDesk$State", "useDays", "I", false)
  | 2 => ("EmbargoDesk$State", "corrected", "I", false)
  | 3 => ("EmbargoDesk$State", "storyCount", "I", false)
  | 4 => ("EmbargoDesk$State", "clientCount", "I", false)
  | 5 => ("EmbargoDesk$State", "copyCount", "I", false)
  | 6 => ("EmbargoDesk$State", "log", "LEmbargoDesk$Log;", true)
  | 7 => ("EmbargoDesk$State", "stories", "[LEmbargoDesk$Story;", true)
  | 8 => ("EmbargoDesk$State", "clients", "[LEmbargoDesk$Client;", true)
  | 9 => ("EmbargoDesk$State", "copies", "[LEmbargoDesk$Copy;", true)
  | _ => ("EmbargoDesk$State", "persons", "[LEmbargoDesk$Person;", true)
def tyX5 : Nat → FieldType := fun k => match k with
  | 0 => .int
  | 1 => .int
  | 2 => .int
  | 3 => .int
  | 4 => .int
  | 5 => .int
  | 6 => .object "EmbargoDesk$Log"
  | 7 => .array (.object "EmbargoDesk$Story")
  | 8 => .array (.object "EmbargoDesk$Client")
  | 9 => .array (.object "EmbargoDesk$Copy")
  | _ => .array (.object "EmbargoDesk$Person")
abbrev wsX50 : List Cond := u_ws RX5 TX5 11
theorem nmX5 : ∀ a, a < 11 → ∀ b, b < 11 → a ≠ b → (TX5 a).2.1 ≠ (TX5 b).2.1 := by decide +kernel
theorem tyX5_ok : ∀ k, k < 11 → parseFieldDescriptor (TX5 k).2.2.1 = some (tyX5 k) := by decide +kernel
abbrev cX5_init : ByteArray := prog_7_method_1_code
def yX5_init : MethodName := ⟨RX5, "<init>", "()V"⟩
abbrev cX5_copyFrom : ByteArray := prog_7_method_2_code
def yX5_copyFrom : MethodName := ⟨RX5, "copyFrom", "(LEmbargoDesk$State;)V"⟩
abbrev cX5_copyStories : ByteArray := prog_7_method_3_code
def yX5_copyStories : MethodName := ⟨RX5, "copyStories", "(LEmbargoDesk$State;)V"⟩
abbrev cX5_copyClients : ByteArray := prog_7_method_4_code
def yX5_copyClients : MethodName := ⟨RX5, "copyClients", "(LEmbargoDesk$State;)V"⟩
abbrev cX5_copyCopies : ByteArray := prog_7_method_5_code
def yX5_copyCopies : MethodName := ⟨RX5, "copyCopies", "(LEmbargoDesk$State;)V"⟩
abbrev cX5_copyPersons : ByteArray := prog_7_method_6_code
def yX5_copyPersons : MethodName := ⟨RX5, "copyPersons", "(LEmbargoDesk$State;)V"⟩
abbrev cX5_storyAt : ByteArray := prog_7_method_7_code
def yX5_storyAt : MethodName := ⟨RX5, "storyAt", "(I)LEmbargoDesk$Story;"⟩
abbrev cX5_clientAt : ByteArray := prog_7_method_8_code
def yX5_clientAt : MethodName := ⟨RX5, "clientAt", "(I)LEmbargoDesk$Client;"⟩
abbrev cX5_copyMade : ByteArray := prog_7_method_9_code
def yX5_copyMade : MethodName := ⟨RX5, "copyMade", "(I)LEmbargoDesk$Copy;"⟩
abbrev cX5_personAt : ByteArray := prog_7_method_10_code
def yX5_personAt : MethodName := ⟨RX5, "personAt", "(I)LEmbargoDesk$Person;"⟩
abbrev cX5_copyFor : ByteArray := prog_7_method_11_code
def yX5_copyFor : MethodName := ⟨RX5, "copyFor", "(II)LEmbargoDesk$Copy;"⟩
abbrev cX5_passHour : ByteArray := prog_7_method_12_code
def yX5_passHour : MethodName := ⟨RX5, "passHour", "()V"⟩
abbrev cX5_startDay : ByteArray := prog_7_method_13_code
def yX5_startDay : MethodName := ⟨RX5, "startDay", "()V"⟩
abbrev cX5_publish : ByteArray := prog_7_method_14_code
def yX5_publish : MethodName := ⟨RX5, "publish", "(ILEmbargoDesk$Story;)V"⟩
abbrev cX5_planCopy : ByteArray := prog_7_method_15_code
def yX5_planCopy : MethodName := ⟨RX5, "planCopy", "(III)V"⟩
abbrev cX5_moveOn : ByteArray := prog_7_method_16_code
def yX5_moveOn : MethodName := ⟨RX5, "moveOn", "(LEmbargoDesk$Copy;)V"⟩
abbrev cX5_startUse : ByteArray := prog_7_method_17_code
def yX5_startUse : MethodName := ⟨RX5, "startUse", "(LEmbargoDesk$Copy;LEmbargoDesk$Story;LEmbargoDesk$Client;)V"⟩
abbrev cX5_bill : ByteArray := prog_7_method_18_code
def yX5_bill : MethodName := ⟨RX5, "bill", "(LEmbargoDesk$Story;LEmbargoDesk$Client;)V"⟩
abbrev cX5_reach : ByteArray := prog_7_method_19_code
def yX5_reach : MethodName := ⟨RX5, "reach", "(LEmbargoDesk$Copy;LEmbargoDesk$Story;)V"⟩
abbrev cX5_correctionsMissing : ByteArray := prog_7_method_20_code
def yX5_correctionsMissing : MethodName := ⟨RX5, "correctionsMissing", "(LEmbargoDesk$Copy;)I"⟩
abbrev cX5_correctionsDue : ByteArray := prog_7_method_21_code
def yX5_correctionsDue : MethodName := ⟨RX5, "correctionsDue", "(LEmbargoDesk$Copy;)I"⟩
abbrev cX5_nextCorrectionAt : ByteArray := prog_7_method_22_code
def yX5_nextCorrectionAt : MethodName := ⟨RX5, "nextCorrectionAt", "(LEmbargoDesk$Copy;)I"⟩
abbrev cX5_killNoticeAt : ByteArray := prog_7_method_23_code
def yX5_killNoticeAt : MethodName := ⟨RX5, "killNoticeAt", "(LEmbargoDesk$Copy;)I"⟩
abbrev cX5_useEndsAt : ByteArray := prog_7_method_24_code
def yX5_useEndsAt : MethodName := ⟨RX5, "useEndsAt", "(LEmbargoDesk$Copy;)I"⟩
abbrev cX5_clientsFor : ByteArray := prog_7_method_25_code
def yX5_clientsFor : MethodName := ⟨RX5, "clientsFor", "(I)I"⟩
abbrev cX5_copiesThatCame : ByteArray := prog_7_method_26_code
def yX5_copiesThatCame : MethodName := ⟨RX5, "copiesThatCame", "()I"⟩
abbrev cX5_copiesOf : ByteArray := prog_7_method_27_code
def yX5_copiesOf : MethodName := ⟨RX5, "copiesOf", "(III)I"⟩
abbrev cX5_fits : ByteArray := prog_7_method_28_code
def yX5_fits : MethodName := ⟨RX5, "fits", "(II)Z"⟩
abbrev cX5_upToDateCopies : ByteArray := prog_7_method_29_code
def yX5_upToDateCopies : MethodName := ⟨RX5, "upToDateCopies", "(I)I"⟩
abbrev cX5_copiesWithCorrectionsDue : ByteArray := prog_7_method_30_code
def yX5_copiesWithCorrectionsDue : MethodName := ⟨RX5, "copiesWithCorrectionsDue", "()I"⟩
abbrev cX5_storiesBy : ByteArray := prog_7_method_31_code
def yX5_storiesBy : MethodName := ⟨RX5, "storiesBy", "(I)I"⟩
abbrev cX5_copiesInUseBy : ByteArray := prog_7_method_32_code
def yX5_copiesInUseBy : MethodName := ⟨RX5, "copiesInUseBy", "(I)I"⟩
abbrev cX5_authors : ByteArray := prog_7_method_33_code
def yX5_authors : MethodName := ⟨RX5, "authors", "()I"⟩
def RX6 : String := "EmbargoDesk$Story"
def TX6 : u_T := fun k => match k with
  | 0 => ("EmbargoDesk$Story", "topic", "I", false)
  | 1 => ("EmbargoDesk$Story", "bylineSize", "I", false)
  | 2 => ("EmbargoDesk$Story", "byline", "[I", true)
  | 3 => ("EmbargoDesk$Story", "embargo", "I", false)
  | 4 => ("EmbargoDesk$Story", "slugSize", "I", false)
  | 5 => ("EmbargoDesk$Story", "slug", "[I", true)
  | 6 => ("EmbargoDesk$Story", "state", "I", false)
  | 7 => ("EmbargoDesk$Story", "version", "I", false)
  | 8 => ("EmbargoDesk$Story", "corrections", "[I", true)
  | 9 => ("EmbargoDesk$Story", "publishedAt", "I", false)
  | _ => ("EmbargoDesk$Story", "killedAt", "I", false)
def tyX6 : Nat → FieldType := fun k => match k with
  | 0 => .int
  | 1 => .int
  | 2 => .array .int
  | 3 => .int
  | 4 => .int
  | 5 => .array .int
  | 6 => .int
  | 7 => .int
  | 8 => .array .int
  | 9 => .int
  | _ => .int
abbrev wsX60 : List Cond := u_ws RX6 TX6 11
theorem nmX6 : ∀ a, a < 11 → ∀ b, b < 11 → a ≠ b → (TX6 a).2.1 ≠ (TX6 b).2.1 := by decide +kernel
theorem tyX6_ok : ∀ k, k < 11 → parseFieldDescriptor (TX6 k).2.2.1 = some (tyX6 k) := by decide +kernel
abbrev cX6_init : ByteArray := prog_8_method_1_code
def yX6_init : MethodName := ⟨RX6, "<init>", "()V"⟩
abbrev cX6_begin : ByteArray := prog_8_method_2_code
def yX6_begin : MethodName := ⟨RX6, "begin", "(LEmbargoDesk$StoryText;)V"⟩
abbrev cX6_copyFrom : ByteArray := prog_8_method_3_code
def yX6_copyFrom : MethodName := ⟨RX6, "copyFrom", "(LEmbargoDesk$Story;)V"⟩
abbrev cX6_addCorrection : ByteArray := prog_8_method_4_code
def yX6_addCorrection : MethodName := ⟨RX6, "addCorrection", "(I)V"⟩
abbrev cX6_authorAt : ByteArray := prog_8_method_5_code
def yX6_authorAt : MethodName := ⟨RX6, "authorAt", "(I)I"⟩
abbrev cX6_correctedAt : ByteArray := prog_8_method_7_code
def yX6_correctedAt : MethodName := ⟨RX6, "correctedAt", "(I)I"⟩
abbrev cX6_isBy : ByteArray := prog_8_method_8_code
def yX6_isBy : MethodName := ⟨RX6, "isBy", "(I)Z"⟩
def RX7 : String := "EmbargoDesk$StoryText"
def TX7 : u_T := fun k => match k with
  | 0 => ("EmbargoDesk$StoryText", "signs", "[I", true)
  | 1 => ("EmbargoDesk$StoryText", "length", "I", false)
  | 2 => ("EmbargoDesk$StoryText", "at", "I", false)
  | 3 => ("EmbargoDesk$StoryText", "topic", "I", false)
  | 4 => ("EmbargoDesk$StoryText", "bylineSize", "I", false)
  | 5 => ("EmbargoDesk$StoryText", "byline", "[I", true)
  | 6 => ("EmbargoDesk$StoryText", "embargo", "I", false)
  | 7 => ("EmbargoDesk$StoryText", "slugSize", "I", false)
  | _ => ("EmbargoDesk$StoryText", "slug", "[I", true)
def tyX7 : Nat → FieldType := fun k => match k with
  | 0 => .array .int
  | 1 => .int
  | 2 => .int
  | 3 => .int
  | 4 => .int
  | 5 => .array .int
  | 6 => .int
  | 7 => .int
  | _ => .array .int
abbrev wsX70 : List Cond := u_ws RX7 TX7 9
theorem nmX7 : ∀ a, a < 9 → ∀ b, b < 9 → a ≠ b → (TX7 a).2.1 ≠ (TX7 b).2.1 := by decide +kernel
theorem tyX7_ok : ∀ k, k < 9 → parseFieldDescriptor (TX7 k).2.2.1 = some (tyX7 k) := by decide +kernel
abbrev cX7_init : ByteArray := prog_9_method_1_code
def yX7_init : MethodName := ⟨RX7, "<init>", "()V"⟩
abbrev cX7_add : ByteArray := prog_9_method_2_code
def yX7_add : MethodName := ⟨RX7, "add", "(C)V"⟩
abbrev cX7_parse : ByteArray := prog_9_method_3_code
def yX7_parse : MethodName := ⟨RX7, "parse", "()I"⟩
abbrev cX7_sign : ByteArray := prog_9_method_4_code
def yX7_sign : MethodName := ⟨RX7, "sign", "()I"⟩
abbrev cX7_digit : ByteArray := prog_9_method_5_code
def yX7_digit : MethodName := ⟨RX7, "digit", "()I"⟩
abbrev cX7_readSign : ByteArray := prog_9_method_6_code
def yX7_readSign : MethodName := ⟨RX7, "readSign", "(C)Z"⟩
abbrev cX7_readTopic : ByteArray := prog_9_method_7_code
def yX7_readTopic : MethodName := ⟨RX7, "readTopic", "()Z"⟩
abbrev cX7_readByline : ByteArray := prog_9_method_8_code
def yX7_readByline : MethodName := ⟨RX7, "readByline", "()Z"⟩
abbrev cX7_readPerson : ByteArray := prog_9_method_9_code
def yX7_readPerson : MethodName := ⟨RX7, "readPerson", "()Z"⟩
abbrev cX7_isInByline : ByteArray := prog_9_method_10_code
def yX7_isInByline : MethodName := ⟨RX7, "isInByline", "(I)Z"⟩
abbrev cX7_readEmbargo : ByteArray := prog_9_method_11_code
def yX7_readEmbargo : MethodName := ⟨RX7, "readEmbargo", "()Z"⟩
abbrev cX7_readSlug : ByteArray := prog_9_method_12_code
def yX7_readSlug : MethodName := ⟨RX7, "readSlug", "()Z"⟩
def RX8 : String := "EmbargoDesk"
def TX8 : u_T := fun k => match k with
  | 0 => ("EmbargoDesk", "state", "LEmbargoDesk$State;", true)
  | 1 => ("EmbargoDesk", "imagined", "LEmbargoDesk$State;", true)
  | 2 => ("EmbargoDesk", "snapshot", "LEmbargoDesk$State;", true)
  | 3 => ("EmbargoDesk", "hasSnapshot", "Z", false)
  | 4 => ("EmbargoDesk", "history", "LEmbargoDesk$History;", true)
  | _ => ("EmbargoDesk", "text", "LEmbargoDesk$StoryText;", true)
def tyX8 : Nat → FieldType := fun k => match k with
  | 0 => .object "EmbargoDesk$State"
  | 1 => .object "EmbargoDesk$State"
  | 2 => .object "EmbargoDesk$State"
  | 3 => .boolean
  | 4 => .object "EmbargoDesk$History"
  | _ => .object "EmbargoDesk$StoryText"
abbrev wsX80 : List Cond := u_ws RX8 TX8 6
theorem nmX8 : ∀ a, a < 6 → ∀ b, b < 6 → a ≠ b → (TX8 a).2.1 ≠ (TX8 b).2.1 := by decide +kernel
theorem tyX8_ok : ∀ k, k < 6 → parseFieldDescriptor (TX8 k).2.2.1 = some (tyX8 k) := by decide +kernel
abbrev cX8_init : ByteArray := prog_1_method_1_code
def yX8_init : MethodName := ⟨RX8, "<init>", "()V"⟩
abbrev cX8_addClient : ByteArray := prog_1_method_2_code
def yX8_addClient : MethodName := ⟨RX8, "addClient", "(IIIII)I"⟩
abbrev cX8_setUp : ByteArray := prog_1_method_4_code
def yX8_setUp : MethodName := ⟨RX8, "setUp", "(IZ)I"⟩
abbrev cX8_setUse : ByteArray := prog_1_method_5_code
def yX8_setUse : MethodName := ⟨RX8, "setUse", "(I)I"⟩
abbrev cX8_pay : ByteArray := prog_1_method_6_code
def yX8_pay : MethodName := ⟨RX8, "pay", "(II)I"⟩
abbrev cX8_readStory : ByteArray := prog_1_method_7_code
def yX8_readStory : MethodName := ⟨RX8, "readStory", "()I"⟩
abbrev cX8_release : ByteArray := prog_1_method_8_code
def yX8_release : MethodName := ⟨RX8, "release", "(I)I"⟩
abbrev cX8_hold : ByteArray := prog_1_method_9_code
def yX8_hold : MethodName := ⟨RX8, "hold", "(I)I"⟩
abbrev cX8_correct : ByteArray := prog_1_method_11_code
def yX8_correct : MethodName := ⟨RX8, "correct", "(I)I"⟩
abbrev cX8_kill : ByteArray := prog_1_method_12_code
def yX8_kill : MethodName := ⟨RX8, "kill", "(I)I"⟩
abbrev cX8_pass : ByteArray := prog_1_method_13_code
def yX8_pass : MethodName := ⟨RX8, "pass", "(I)I"⟩
abbrev cX8_type : ByteArray := prog_1_method_14_code
def yX8_type : MethodName := ⟨RX8, "type", "(C)I"⟩
abbrev cX8_clearText : ByteArray := prog_1_method_15_code
def yX8_clearText : MethodName := ⟨RX8, "clearText", "()I"⟩
abbrev cX8_undo : ByteArray := prog_1_method_16_code
def yX8_undo : MethodName := ⟨RX8, "undo", "()I"⟩
abbrev cX8_keep : ByteArray := prog_1_method_17_code
def yX8_keep : MethodName := ⟨RX8, "keep", "()I"⟩
abbrev cX8_restore : ByteArray := prog_1_method_18_code
def yX8_restore : MethodName := ⟨RX8, "restore", "()I"⟩
abbrev cX8_story : ByteArray := prog_1_method_19_code
def yX8_story : MethodName := ⟨RX8, "story", "(II)I"⟩
abbrev cX8_byline : ByteArray := prog_1_method_20_code
def yX8_byline : MethodName := ⟨RX8, "byline", "(II)I"⟩
abbrev cX8_correction : ByteArray := prog_1_method_22_code
def yX8_correction : MethodName := ⟨RX8, "correction", "(II)I"⟩
abbrev cX8_client : ByteArray := prog_1_method_23_code
def yX8_client : MethodName := ⟨RX8, "client", "(II)I"⟩
abbrev cX8_person : ByteArray := prog_1_method_24_code
def yX8_person : MethodName := ⟨RX8, "person", "(II)I"⟩
abbrev cX8_copy : ByteArray := prog_1_method_25_code
def yX8_copy : MethodName := ⟨RX8, "copy", "(III)I"⟩
abbrev cX8_copyAt : ByteArray := prog_1_method_26_code
def yX8_copyAt : MethodName := ⟨RX8, "copyAt", "(I)I"⟩
abbrev cX8_carriedIn : ByteArray := prog_1_method_27_code
def yX8_carriedIn : MethodName := ⟨RX8, "carriedIn", "(II)I"⟩
abbrev cX8_wouldCome : ByteArray := prog_1_method_28_code
def yX8_wouldCome : MethodName := ⟨RX8, "wouldCome", "(II)I"⟩
abbrev cX8_count : ByteArray := prog_1_method_30_code
def yX8_count : MethodName := ⟨RX8, "count", "(I)I"⟩
abbrev cX8_isBetween : ByteArray := prog_1_method_31_code
def yX8_isBetween : MethodName := ⟨RX8, "isBetween", "(III)Z"⟩
abbrev cX8_isPlace : ByteArray := prog_1_method_32_code
def yX8_isPlace : MethodName := ⟨RX8, "isPlace", "(II)Z"⟩
abbrev cX8_copyRow : ByteArray := prog_1_method_33_code
def yX8_copyRow : MethodName := ⟨RX8, "copyRow", "([I[I)V"⟩
def RX9 : String := "EmbargoDeskModel"
def TX9 : u_T := fun k => match k with
  | _ => ("", "", "", false)
def tyX9 : Nat → FieldType := fun k => match k with
  | _ => .int
abbrev wsX90 : List Cond := u_ws RX9 TX9 0
theorem nmX9 : ∀ a, a < 0 → ∀ b, b < 0 → a ≠ b → (TX9 a).2.1 ≠ (TX9 b).2.1 := by decide +kernel
theorem tyX9_ok : ∀ k, k < 0 → parseFieldDescriptor (TX9 k).2.2.1 = some (tyX9 k) := by decide +kernel
def RJ9 : String := "java/lang/Math"
def TJ9 : u_T := fun k => match k with
  | _ => ("", "", "", false)
def tyJ9 : Nat → FieldType := fun k => match k with
  | _ => .int
abbrev wsJ90 : List Cond := u_ws RJ9 TJ9 0
theorem nmJ9 : ∀ a, a < 0 → ∀ b, b < 0 → a ≠ b → (TJ9 a).2.1 ≠ (TJ9 b).2.1 := by decide +kernel
theorem tyJ9_ok : ∀ k, k < 0 → parseFieldDescriptor (TJ9 k).2.2.1 = some (tyJ9 k) := by decide +kernel
abbrev cJ9_max_7cf53 : ByteArray := prog_12_method_65_code
def yJ9_max_7cf53 : MethodName := ⟨RJ9, "max", "(II)I"⟩
abbrev cJ9_min_7cf53 : ByteArray := prog_12_method_69_code
def yJ9_min_7cf53 : MethodName := ⟨RJ9, "min", "(II)I"⟩
def RJ10 : String := "java/lang/System"
def TJ10 : u_T := fun k => match k with
  | _ => ("", "", "", false)
def tyJ10 : Nat → FieldType := fun k => match k with
  | _ => .int
abbrev wsJ100 : List Cond := u_ws RJ10 TJ10 0
theorem nmJ10 : ∀ a, a < 0 → ∀ b, b < 0 → a ≠ b → (TJ10 a).2.1 ≠ (TJ10 b).2.1 := by decide +kernel
theorem tyJ10_ok : ∀ k, k < 0 → parseFieldDescriptor (TJ10 k).2.2.1 = some (tyJ10 k) := by decide +kernel
def RL : String := "EmbargoDeskLaw"
abbrev cL_cell : ByteArray := method_2_code
def yL_cell : MethodName := ⟨RL, "cell", "([II)I"⟩
abbrev cL_copies : ByteArray := method_3_code
def yL_copies : MethodName := ⟨RL, "copies", "(LEmbargoDesk;)Z"⟩
abbrev cL_money : ByteArray := method_4_code
def yL_money : MethodName := ⟨RL, "money", "(LEmbargoDesk;I)Z"⟩
abbrev cL_reads : ByteArray := method_5_code
def yL_reads : MethodName := ⟨RL, "reads", "(LEmbargoDesk;I)Z"⟩
abbrev cL_passes : ByteArray := method_6_code
def yL_passes : MethodName := ⟨RL, "passes", "(LEmbargoDesk;I)Z"⟩
abbrev cL_acts : ByteArray := method_7_code
def yL_acts : MethodName := ⟨RL, "acts", "(LEmbargoDesk;I)Z"⟩
abbrev cL_law : ByteArray := code
def yL_law : MethodName := ⟨RL, "law", "([I)Z"⟩
abbrev vwCl : List vw_C := [(RX0, TX0, 10), (RX1, TX1, 6), (RX2, TX2, 2), (RX3, TX3, 3), (RX4, TX4, 2), (RX5, TX5, 11), (RX6, TX6, 11), (RX7, TX7, 9), (RX8, TX8, 6)]
/-- the words that stay good behind a call, of all the tables -/
def ed_ws : List Cond := lw_tbl.filter goodWord
theorem ed_ws_tbl {w : Cond} (h : w ∈ ed_ws) : w ∈ lw_tbl := (List.mem_filter.mp h).1
theorem ed_ws_good {w : Cond} (h : w ∈ ed_ws) : (w.onTables && w.keeps) = true ∨ ∃ ty, w = .arrayClass ty := good_of_word (List.mem_filter.mp h).2
theorem ed_tt {w : Cond} (h : w ∈ tables_1) (hg : goodWord w = true) : w ∈ ed_ws := List.mem_filter.mpr ⟨List.mem_append_right _ h, hg⟩
theorem ed_wm1 {w : Cond} {i : Nat} (h : tables_1_1[i]? = some w) (hg : goodWord w = true) : w ∈ ed_ws := ed_tt (List.mem_append_left _ (List.mem_of_getElem? h)) hg
theorem ed_wm2 {w : Cond} {i : Nat} (h : tables_1_2[i]? = some w) (hg : goodWord w = true) : w ∈ ed_ws := ed_tt (List.mem_append_right _ (List.mem_append_left _ (List.mem_of_getElem? h))) hg
theorem ed_wm3 {w : Cond} {i : Nat} (h : tables_1_3[i]? = some w) (hg : goodWord w = true) : w ∈ ed_ws := ed_tt (List.mem_append_right _ (List.mem_append_right _ (List.mem_append_left _ (List.mem_of_getElem? h)))) hg
theorem ed_wm4 {w : Cond} {i : Nat} (h : tables_1_4[i]? = some w) (hg : goodWord w = true) : w ∈ ed_ws := ed_tt (List.mem_append_right _ (List.mem_append_right _ (List.mem_append_right _ (List.mem_of_getElem? h)))) hg
theorem ed_pp {q : MethodName × Nat} {w : Cond} (h : q ∈ lw_privs) (hw : Cond.selects q.1.cls q.1 q.1 = w) (hg : goodWord w = true) : w ∈ ed_ws := List.mem_filter.mpr ⟨List.mem_append_left _ (List.mem_map.mpr ⟨q, h, hw⟩), hg⟩
theorem ed_wp1 {q : MethodName × Nat} {w : Cond} {i : Nat} (h : lw_privs_1[i]? = some q) (hw : Cond.selects q.1.cls q.1 q.1 = w) (hg : goodWord w = true) : w ∈ ed_ws := ed_pp (List.mem_append_left _ (List.mem_of_getElem? h)) hw hg
theorem ed_wp2 {q : MethodName × Nat} {w : Cond} {i : Nat} (h : lw_privs_2[i]? = some q) (hw : Cond.selects q.1.cls q.1 q.1 = w) (hg : goodWord w = true) : w ∈ ed_ws := ed_pp (List.mem_append_right _ (List.mem_of_getElem? h)) hw hg
/-- a call's words among them -/
theorem ed_gA {c0 : Cond} (h : c0 ∈ ed_ws) : GoodIn ed_ws (c0 :: ed_ws) := fun w hw => (List.mem_cons.mp hw).elim (fun q => by rw [q]; exact ⟨h, ed_ws_good h⟩) (fun q => ⟨q, ed_ws_good q⟩)
theorem ed_gV {own C : String} {idx : Nat} {y : MethodName} {c0 : Cond} (h1 : Cond.methodLink own idx y ∈ ed_ws) (h2 : Cond.instanceMethod y ∈ ed_ws) (h3 : Cond.selects C y y ∈ ed_ws) (h4 : Cond.initialized C ∈ ed_ws) (h5 : c0 ∈ ed_ws) : GoodIn ed_ws (wsV own idx C y (c0 :: ed_ws)) := by
  intro w hw
  unfold wsV at hw
  rcases List.mem_append.mp hw with hw | hw
  · simp only [List.mem_cons, List.not_mem_nil, or_false] at hw
    rcases hw with rfl | rfl | rfl | rfl
    · exact ⟨h1, ed_ws_good h1⟩
    · exact ⟨h2, ed_ws_good h2⟩
    · exact ⟨h3, ed_ws_good h3⟩
    · exact ⟨h4, ed_ws_good h4⟩
  · exact ed_gA h5 w hw
theorem ed_gS {own : String} {idx : Nat} {y : MethodName} {c0 : Cond} (h1 : Cond.methodLink own idx y ∈ ed_ws) (h2 : Cond.static y ∈ ed_ws) (h4 : Cond.initialized y.cls ∈ ed_ws) (h5 : c0 ∈ ed_ws) : GoodIn ed_ws (va_wsS own idx y (c0 :: ed_ws)) := by
  intro w hw
  unfold va_wsS at hw
  rcases List.mem_append.mp hw with hw | hw
  · simp only [List.mem_cons, List.not_mem_nil, or_false] at hw
    rcases hw with rfl | rfl | rfl
    · exact ⟨h1, ed_ws_good h1⟩
    · exact ⟨h2, ed_ws_good h2⟩
    · exact ⟨h4, ed_ws_good h4⟩
  · exact ed_gA h5 w hw
