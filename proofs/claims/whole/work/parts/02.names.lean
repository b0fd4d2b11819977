/-! Printed by wip/whole/gen_names.py out of the Statement of this commit: classes, methods, links. -/
def xown : List String := ["FishFerryLaw", "FishFerry$Fog", "FishFerry$Lake", "FishFerry$Past", "FishFerry$Rule", "FishFerry$School", "FishFerry$Sights", "FishFerry$State", "FishFerry$Text", "FishFerry$Told", "FishFerry$Trip", "FishFerry$Tug", "FishFerry", "FishFerryModel", "java/lang/Object", "java/util/Arrays", "java/lang/Math", "java/lang/Integer", "java/lang/String", "java/lang/StringLatin1", "java/lang/StringUTF16", "jdk/internal/util/Preconditions", "java/lang/Character", "java/lang/Long", "java/lang/Throwable", "java/util/NoSuchElementException", "java/lang/RuntimeException", "java/lang/Exception"]
def xfl : List (List (String × String × String × Bool)) := [
  [("FishFerry$Fog", "digits", "[I", true), ("FishFerry$Fog", "size", "I", false)],
  [("FishFerry$Lake", "rows", "I", false), ("FishFerry$Lake", "columns", "I", false), ("FishFerry$Lake", "rock", "[Z", true), ("FishFerry$Lake", "steps", "[I", true), ("FishFerry$Lake", "queue", "[I", true)],
  [("FishFerry$Past", "states", "[LFishFerry$State;", true), ("FishFerry$Past", "next", "I", false), ("FishFerry$Past", "size", "I", false)],
  [("FishFerry$Rule", "code", "[I", true), ("FishFerry$Rule", "size", "I", false), ("FishFerry$Rule", "stack", "[I", true), ("FishFerry$Rule", "waiting", "[I", true), ("FishFerry$Rule", "waits", "I", false), ("FishFerry$Rule", "depth", "I", false), ("FishFerry$Rule", "compared", "I", false), ("FishFerry$Rule", "digits", "I", false), ("FishFerry$Rule", "wantsThing", "Z", false), ("FishFerry$Rule", "noteKeys", "[I", true), ("FishFerry$Rule", "notes", "[B", true)],
  [("FishFerry$School", "kind", "[I", true), ("FishFerry$School", "strength", "[I", true), ("FishFerry$School", "size", "I", false)],
  [("FishFerry$Sights", "hours", "[I", true), ("FishFerry$Sights", "fields", "[I", true), ("FishFerry$Sights", "there", "[Z", true), ("FishFerry$Sights", "size", "I", false)],
  [("FishFerry$State", "boat", "I", false), ("FishFerry$State", "store", "I", false), ("FishFerry$State", "kept", "I", false), ("FishFerry$State", "broken", "I", false), ("FishFerry$State", "hour", "I", false), ("FishFerry$State", "held", "I", false), ("FishFerry$State", "tired", "[I", true), ("FishFerry$State", "trust", "[I", true), ("FishFerry$State", "goal", "[I", true), ("FishFerry$State", "crumbs", "[I", true)],
  [("FishFerry$Text", "signs", "[C", true), ("FishFerry$Text", "size", "I", false)],
  [("FishFerry$Told", "numbers", "[J", true), ("FishFerry$Told", "size", "I", false)],
  [("FishFerry$Trip", "lake", "LFishFerry$Lake;", true), ("FishFerry$Trip", "school", "LFishFerry$School;", true), ("FishFerry$Trip", "tug", "LFishFerry$Tug;", true), ("FishFerry$Trip", "kept", "I", false), ("FishFerry$Trip", "broken", "I", false), ("FishFerry$Trip", "stuck", "I", false), ("FishFerry$Trip", "keptSet", "I", false), ("FishFerry$Trip", "brokenSet", "I", false)],
  [("FishFerry$Tug", "lake", "LFishFerry$Lake;", true), ("FishFerry$Tug", "school", "LFishFerry$School;", true), ("FishFerry$Tug", "fog", "LFishFerry$Fog;", true), ("FishFerry$Tug", "pull", "[I", true), ("FishFerry$Tug", "firstWay", "[I", true), ("FishFerry$Tug", "secondWay", "[I", true), ("FishFerry$Tug", "net", "[I", true)],
  [("FishFerry", "text", "LFishFerry$Text;", true), ("FishFerry", "told", "LFishFerry$Told;", true), ("FishFerry", "water", "LFishFerry$Lake;", true), ("FishFerry", "school", "LFishFerry$School;", true), ("FishFerry", "mist", "LFishFerry$Fog;", true), ("FishFerry", "tug", "LFishFerry$Tug;", true), ("FishFerry", "trip", "LFishFerry$Trip;", true), ("FishFerry", "now", "LFishFerry$State;", true), ("FishFerry", "before", "LFishFerry$State;", true), ("FishFerry", "trial", "LFishFerry$State;", true), ("FishFerry", "past", "LFishFerry$Past;", true), ("FishFerry", "sights", "LFishFerry$Sights;", true), ("FishFerry", "stored", "[LFishFerry$State;", true), ("FishFerry", "places", "[[I", true), ("FishFerry", "storedSet", "I", false), ("FishFerry", "pulling", "LFishFerry$Rule;", false), ("FishFerry", "other", "LFishFerry$Rule;", false)],
  [("FishFerryModel", "thrown", "I", false), ("FishFerryModel", "told", "I", false), ("FishFerryModel", "row", "[J", true), ("FishFerryModel", "rows", "I", false), ("FishFerryModel", "columns", "I", false), ("FishFerryModel", "fish", "I", false), ("FishFerryModel", "changes", "I", false), ("FishFerryModel", "skyLong", "I", false), ("FishFerryModel", "isRock", "[Z", true), ("FishFerryModel", "sky", "[I", true), ("FishFerryModel", "kind", "[I", true), ("FishFerryModel", "strength", "[I", true), ("FishFerryModel", "now", "[I", true), ("FishFerryModel", "then", "[I", true), ("FishFerryModel", "tape", "[I", true), ("FishFerryModel", "taped", "I", false), ("FishFerryModel", "at", "I", false), ("FishFerryModel", "to", "I", false), ("FishFerryModel", "nest", "I", false), ("FishFerryModel", "readRock", "[Z", true), ("FishFerryModel", "read", "[I", true), ("FishFerryModel", "readMany", "I", false), ("FishFerryModel", "code", "[I", true), ("FishFerryModel", "readCode", "[I", true), ("FishFerryModel", "codeLong", "I", false), ("FishFerryModel", "codesRead", "I", false), ("FishFerryModel", "stack", "[I", true), ("FishFerryModel", "asked", "[I", true), ("FishFerryModel", "pulls", "[I", true), ("FishFerryModel", "had", "[I", true), ("FishFerryModel", "undos", "I", false), ("FishFerryModel", "undone", "[I", true), ("FishFerryModel", "keptMany", "I", false), ("FishFerryModel", "brokenMany", "I", false), ("FishFerryModel", "stuckMany", "I", false), ("FishFerryModel", "actSign", "[I", true), ("FishFerryModel", "actOne", "[I", true), ("FishFerryModel", "actRow", "[I", true), ("FishFerryModel", "actColumn", "[I", true), ("FishFerryModel", "actMany", "[I", true), ("FishFerryModel", "acts", "I", false), ("FishFerryModel", "seenMany", "I", false), ("FishFerryModel", "seenHour", "[I", true), ("FishFerryModel", "seenField", "[I", true), ("FishFerryModel", "seenIs", "[I", true), ("FishFerryModel", "places", "[I", true), ("FishFerryModel", "often", "[I", true), ("FishFerryModel", "steps", "[I", true), ("FishFerryModel", "troutWins", "[Z", true), ("FishFerryModel", "pikeWins", "[Z", true), ("FishFerryModel", "wasCode", "[I", true), ("FishFerryModel", "random", "I", false), ("FishFerryModel", "isKept", "[Z", true), ("FishFerryModel", "keptChanges", "[I", true), ("FishFerryModel", "kept", "[I", true)]]
def xT (ci : Nat) : u_T := fun k => ((xfl.getD ci []).getD k ("", "", "", false))
def xcn : List String := ["FishFerry$Fog", "FishFerry$Lake", "FishFerry$Past", "FishFerry$Rule", "FishFerry$School", "FishFerry$Sights", "FishFerry$State", "FishFerry$Text", "FishFerry$Told", "FishFerry$Trip", "FishFerry$Tug", "FishFerry", "FishFerryModel"]
def xN (ci : Nat) : Nat := (xfl.getD ci []).length
def xcl : List vw_C := (List.range 13).map (fun ci => (xcn.getD ci "", xT ci, xN ci))
def xft : List (List FieldType) := [
  [(.array .int), .int],
  [.int, .int, (.array .boolean), (.array .int), (.array .int)],
  [(.array (.object "FishFerry$State")), .int, .int],
  [(.array .int), .int, (.array .int), (.array .int), .int, .int, .int, .int, .boolean, (.array .int), (.array .byte)],
  [(.array .int), (.array .int), .int],
  [(.array .int), (.array .int), (.array .boolean), .int],
  [.int, .int, .int, .int, .int, .int, (.array .int), (.array .int), (.array .int), (.array .int)],
  [(.array .char), .int],
  [(.array .long), .int],
  [(.object "FishFerry$Lake"), (.object "FishFerry$School"), (.object "FishFerry$Tug"), .int, .int, .int, .int, .int],
  [(.object "FishFerry$Lake"), (.object "FishFerry$School"), (.object "FishFerry$Fog"), (.array .int), (.array .int), (.array .int), (.array .int)],
  [(.object "FishFerry$Text"), (.object "FishFerry$Told"), (.object "FishFerry$Lake"), (.object "FishFerry$School"), (.object "FishFerry$Fog"), (.object "FishFerry$Tug"), (.object "FishFerry$Trip"), (.object "FishFerry$State"), (.object "FishFerry$State"), (.object "FishFerry$State"), (.object "FishFerry$Past"), (.object "FishFerry$Sights"), (.array (.object "FishFerry$State")), (.array (.array .int)), .int, (.object "FishFerry$Rule"), (.object "FishFerry$Rule")],
  [.int, .int, (.array .long), .int, .int, .int, .int, .int, (.array .boolean), (.array .int), (.array .int), (.array .int), (.array .int), (.array .int), (.array .int), .int, .int, .int, .int, (.array .boolean), (.array .int), .int, (.array .int), (.array .int), .int, .int, (.array .int), (.array .int), (.array .int), (.array .int), .int, (.array .int), .int, .int, .int, (.array .int), (.array .int), (.array .int), (.array .int), (.array .int), .int, .int, (.array .int), (.array .int), (.array .int), (.array .int), (.array .int), (.array .int), (.array .boolean), (.array .boolean), (.array .int), .int, (.array .boolean), (.array .int), (.array .int)]]
def xty (ci k : Nat) : FieldType := (xft.getD ci []).getD k .int
/-- a method: its class by number, its name, its code, its locals, what it returns, how many arguments, the cells and slots that it makes at most -/
abbrev mT : Type := Nat × MethodName × ByteArray × Nat × Option FieldType × Nat × Nat × Nat
def mOwn (M : mT) : String := xown.getD M.1 ""
abbrev mY (M : mT) : MethodName := M.2.1
abbrev mCd (M : mT) : ByteArray := M.2.2.1
abbrev mLo (M : mT) : Nat := M.2.2.2.1
abbrev mRt (M : mT) : Option FieldType := M.2.2.2.2.1
abbrev mN (M : mT) : Nat := M.2.2.2.2.2.1
abbrev mBc (M : mT) : Nat := M.2.2.2.2.2.2.1
abbrev mBs (M : mT) : Nat := M.2.2.2.2.2.2.2
def M_X_init : mT := (12, ⟨"FishFerry", "<init>", "()V"⟩, prog_1_method_1_code, 2, none, 0, 153, 5811)
def M_Object_init : mT := (14, ⟨"java/lang/Object", "<init>", "()V"⟩, object_method_1_code, 1, none, 0, 0, 0)
def M_Text_init : mT := (8, ⟨"FishFerry$Text", "<init>", "()V"⟩, prog_9_method_1_code, 1, none, 0, 1, 80)
def M_Told_init : mT := (9, ⟨"FishFerry$Told", "<init>", "()V"⟩, prog_10_method_1_code, 1, none, 0, 1, 37)
def M_Lake_init : mT := (2, ⟨"FishFerry$Lake", "<init>", "()V"⟩, prog_3_method_1_code, 1, none, 0, 3, 108)
def M_School_init : mT := (5, ⟨"FishFerry$School", "<init>", "()V"⟩, prog_6_method_1_code, 1, none, 0, 2, 16)
def M_Fog_init : mT := (1, ⟨"FishFerry$Fog", "<init>", "()V"⟩, prog_2_method_1_code, 1, none, 0, 1, 20)
def M_Tug_init : mT := (11, ⟨"FishFerry$Tug", "<init>", "(LFishFerry$Lake;LFishFerry$School;LFishFerry$Fog;)V"⟩, prog_12_method_1_code, 4, none, 3, 4, 28)
def M_Trip_init : mT := (10, ⟨"FishFerry$Trip", "<init>", "(LFishFerry$Lake;LFishFerry$School;LFishFerry$Tug;)V"⟩, prog_11_method_1_code, 4, none, 3, 0, 0)
def M_State_init : mT := (7, ⟨"FishFerry$State", "<init>", "()V"⟩, prog_8_method_1_code, 1, none, 0, 4, 32)
def M_Past_init : mT := (3, ⟨"FishFerry$Past", "<init>", "()V"⟩, prog_4_method_1_code, 2, none, 0, 76, 645)
def M_Sights_init : mT := (6, ⟨"FishFerry$Sights", "<init>", "()V"⟩, prog_7_method_1_code, 1, none, 0, 3, 30)
def M_Rule_init : mT := (4, ⟨"FishFerry$Rule", "<init>", "()V"⟩, prog_5_method_1_code, 1, none, 0, 5, 2168)
def M_Rule_plain : mT := (4, ⟨"FishFerry$Rule", "plain", "()V"⟩, prog_5_method_2_code, 1, none, 0, 0, 0)
def M_Arrays_fill : mT := (15, ⟨"java/util/Arrays", "fill", "([II)V"⟩, prog_31_method_103_code, 4, none, 2, 0, 0)
def M_X_sign : mT := (12, ⟨"FishFerry", "sign", "(I)I"⟩, prog_1_method_2_code, 2, (some .int), 1, 0, 0)
def M_Text_append : mT := (8, ⟨"FishFerry$Text", "append", "(I)Z"⟩, prog_9_method_3_code, 3, (some .boolean), 1, 0, 0)
def M_Text_length : mT := (8, ⟨"FishFerry$Text", "length", "()I"⟩, prog_9_method_2_code, 1, (some .int), 0, 0, 0)
def M_X_end : mT := (12, ⟨"FishFerry", "end", "(I)Z"⟩, prog_1_method_3_code, 2, (some .boolean), 1, 0, 0)
def M_Text_shorten : mT := (8, ⟨"FishFerry$Text", "shorten", "(I)Z"⟩, prog_9_method_4_code, 2, (some .boolean), 1, 0, 0)
def M_X_lake : mT := (12, ⟨"FishFerry", "lake", "()I"⟩, prog_1_method_4_code, 2, (some .int), 0, 0, 0)
def M_Lake_faultIn : mT := (2, ⟨"FishFerry$Lake", "faultIn", "(LFishFerry$Text;)I"⟩, prog_3_method_2_code, 6, (some .int), 1, 0, 0)
def M_Text_digit : mT := (8, ⟨"FishFerry$Text", "digit", "(I)I"⟩, prog_9_method_7_code, 3, (some .int), 1, 0, 0)
def M_Text_at : mT := (8, ⟨"FishFerry$Text", "at", "(I)I"⟩, prog_9_method_6_code, 2, (some .int), 1, 0, 0)
def M_Lake_take : mT := (2, ⟨"FishFerry$Lake", "take", "(LFishFerry$Text;)V"⟩, prog_3_method_3_code, 3, none, 1, 0, 0)
def M_Past_clear : mT := (3, ⟨"FishFerry$Past", "clear", "()V"⟩, prog_4_method_2_code, 1, none, 0, 0, 0)
def M_Sights_clear : mT := (6, ⟨"FishFerry$Sights", "clear", "()V"⟩, prog_7_method_3_code, 1, none, 0, 0, 0)
def M_Text_clear : mT := (8, ⟨"FishFerry$Text", "clear", "()V"⟩, prog_9_method_5_code, 1, none, 0, 0, 0)
def M_Lake_fields : mT := (2, ⟨"FishFerry$Lake", "fields", "()I"⟩, prog_3_method_4_code, 1, (some .int), 0, 0, 0)
def M_X_fish : mT := (12, ⟨"FishFerry", "fish", "()I"⟩, prog_1_method_5_code, 3, (some .int), 0, 0, 0)
def M_X_fishFault : mT := (12, ⟨"FishFerry", "fishFault", "()I"⟩, prog_1_method_50_code, 3, (some .int), 0, 0, 0)
def M_X_kindOf : mT := (12, ⟨"FishFerry", "kindOf", "(I)I"⟩, prog_1_method_49_code, 1, (some .int), 1, 0, 0)
def M_X_addFish : mT := (12, ⟨"FishFerry", "addFish", "()I"⟩, prog_1_method_51_code, 3, (some .int), 0, 0, 0)
def M_State_welcome : mT := (7, ⟨"FishFerry$State", "welcome", "(I)V"⟩, prog_8_method_3_code, 2, none, 1, 0, 0)
def M_School_add : mT := (5, ⟨"FishFerry$School", "add", "(II)V"⟩, prog_6_method_3_code, 3, none, 2, 0, 0)
def M_X_oar : mT := (12, ⟨"FishFerry", "oar", "()I"⟩, prog_1_method_6_code, 3, (some .int), 0, 0, 0)
def M_X_oarFault : mT := (12, ⟨"FishFerry", "oarFault", "()I"⟩, prog_1_method_52_code, 5, (some .int), 0, 0, 0)
def M_X_canBePromised : mT := (12, ⟨"FishFerry", "canBePromised", "(I)Z"⟩, prog_1_method_59_code, 2, (some .boolean), 1, 0, 0)
def M_School_has : mT := (5, ⟨"FishFerry$School", "has", "(I)Z"⟩, prog_6_method_2_code, 2, (some .boolean), 1, 0, 0)
def M_Past_push : mT := (3, ⟨"FishFerry$Past", "push", "(LFishFerry$State;)V"⟩, prog_4_method_3_code, 2, none, 1, 0, 0)
def M_State_copy : mT := (7, ⟨"FishFerry$State", "copy", "(LFishFerry$State;)V"⟩, prog_8_method_2_code, 2, none, 1, 0, 0)
def M_Math_min : mT := (16, ⟨"java/lang/Math", "min", "(II)I"⟩, prog_22_method_69_code, 2, (some .int), 2, 0, 0)
def M_X_addPromises : mT := (12, ⟨"FishFerry", "addPromises", "()I"⟩, prog_1_method_53_code, 4, (some .int), 0, 0, 0)
def M_Lake_fieldAt : mT := (2, ⟨"FishFerry$Lake", "fieldAt", "(II)I"⟩, prog_3_method_9_code, 4, (some .int), 2, 0, 0)
def M_X_makePromise : mT := (12, ⟨"FishFerry", "makePromise", "(LFishFerry$State;III)I"⟩, prog_1_method_60_code, 5, (some .int), 4, 0, 0)
def M_Lake_has : mT := (2, ⟨"FishFerry$Lake", "has", "(I)Z"⟩, prog_3_method_5_code, 2, (some .boolean), 1, 0, 0)
def M_State_promised : mT := (7, ⟨"FishFerry$State", "promised", "(I)I"⟩, prog_8_method_4_code, 4, (some .int), 1, 0, 0)
def M_Integer_bitCount : mT := (17, ⟨"java/lang/Integer", "bitCount", "(I)I"⟩, prog_20_method_49_code, 1, (some .int), 1, 0, 0)
def M_X_fog : mT := (12, ⟨"FishFerry", "fog", "()I"⟩, prog_1_method_7_code, 3, (some .int), 0, 0, 0)
def M_Fog_faultIn : mT := (1, ⟨"FishFerry$Fog", "faultIn", "(LFishFerry$Text;)I"⟩, prog_2_method_2_code, 3, (some .int), 1, 0, 0)
def M_Fog_take : mT := (1, ⟨"FishFerry$Fog", "take", "(LFishFerry$Text;)V"⟩, prog_2_method_3_code, 3, none, 1, 0, 0)
def M_Math_max : mT := (16, ⟨"java/lang/Math", "max", "(II)I"⟩, prog_22_method_65_code, 2, (some .int), 2, 0, 0)
def M_X_rule : mT := (12, ⟨"FishFerry", "rule", "()I"⟩, prog_1_method_8_code, 3, (some .int), 0, 0, 0)
def M_Rule_read : mT := (4, ⟨"FishFerry$Rule", "read", "(LFishFerry$Text;)I"⟩, prog_5_method_3_code, 5, (some .int), 1, 0, 0)
def M_Rule_takeThing : mT := (4, ⟨"FishFerry$Rule", "takeThing", "(I)Z"⟩, prog_5_method_4_code, 4, (some .boolean), 1, 0, 0)
def M_Rule_await : mT := (4, ⟨"FishFerry$Rule", "await", "(I)V"⟩, prog_5_method_10_code, 2, none, 1, 0, 0)
def M_String_indexOf : mT := (18, ⟨"java/lang/String", "indexOf", "(I)I"⟩, prog_24_method_79_code, 2, (some .int), 1, 0, 0)
def M_String_indexOf_2 : mT := (18, ⟨"java/lang/String", "indexOf", "(II)I"⟩, prog_24_method_80_code, 3, (some .int), 2, 0, 0)
def M_String_isLatin1 : mT := (18, ⟨"java/lang/String", "isLatin1", "()Z"⟩, prog_24_method_154_code, 1, (some .boolean), 0, 0, 0)
def M_String_length : mT := (18, ⟨"java/lang/String", "length", "()I"⟩, prog_24_method_54_code, 1, (some .int), 0, 0, 0)
def M_String_coder : mT := (18, ⟨"java/lang/String", "coder", "()B"⟩, prog_24_method_152_code, 1, (some .byte), 0, 0, 0)
def M_StringLatin1_indexOf : mT := (19, ⟨"java/lang/StringLatin1", "indexOf", "([BIII)I"⟩, prog_25_method_22_code, 4, (some .int), 4, 0, 0)
def M_StringLatin1_canEncode : mT := (19, ⟨"java/lang/StringLatin1", "canEncode", "(I)Z"⟩, prog_25_method_4_code, 1, (some .boolean), 1, 0, 0)
def M_StringLatin1_indexOfChar : mT := (19, ⟨"java/lang/StringLatin1", "indexOfChar", "([BIII)I"⟩, prog_25_method_23_code, 6, (some .int), 4, 0, 0)
def M_StringUTF16_indexOf : mT := (20, ⟨"java/lang/StringUTF16", "indexOf", "([BIII)I"⟩, prog_26_method_40_code, 4, (some .int), 4, 0, 0)
def M_StringUTF16_indexOfChar : mT := (20, ⟨"java/lang/StringUTF16", "indexOfChar", "([BIII)I"⟩, prog_26_method_47_code, 4, (some .int), 4, 0, 0)
def M_StringUTF16_checkBoundsBeginEnd : mT := (20, ⟨"java/lang/StringUTF16", "checkBoundsBeginEnd", "(II[B)V"⟩, prog_26_method_93_code, 3, none, 3, 0, 0)
def M_StringUTF16_length : mT := (20, ⟨"java/lang/StringUTF16", "length", "([B)I"⟩, prog_26_method_6_code, 1, (some .int), 1, 0, 0)
def M_String_checkBoundsBeginEnd : mT := (18, ⟨"java/lang/String", "checkBoundsBeginEnd", "(III)V"⟩, prog_24_method_158_code, 3, none, 3, 0, 0)
def M_Preconditions_checkFromToIndex : mT := (21, ⟨"jdk/internal/util/Preconditions", "checkFromToIndex", "(IIILjava/util/function/BiFunction;)I"⟩, prog_33_method_12_code, 4, (some .int), 4, 0, 0)
def M_StringUTF16_indexOfCharUnsafe : mT := (20, ⟨"java/lang/StringUTF16", "indexOfCharUnsafe", "([BIII)I"⟩, prog_26_method_48_code, 5, (some .int), 4, 0, 0)
def M_StringUTF16_getChar : mT := (20, ⟨"java/lang/StringUTF16", "getChar", "([BI)C"⟩, prog_26_method_5_code, 2, (some .char), 2, 0, 0)
def M_StringUTF16_indexOfSupplementary : mT := (20, ⟨"java/lang/StringUTF16", "indexOfSupplementary", "([BIII)I"⟩, prog_26_method_49_code, 7, (some .int), 4, 0, 0)
def M_Character_isValidCodePoint : mT := (22, ⟨"java/lang/Character", "isValidCodePoint", "(I)Z"⟩, prog_17_method_11_code, 2, (some .boolean), 1, 0, 0)
def M_Character_highSurrogate : mT := (22, ⟨"java/lang/Character", "highSurrogate", "(I)C"⟩, prog_17_method_28_code, 1, (some .char), 1, 0, 0)
def M_Character_lowSurrogate : mT := (22, ⟨"java/lang/Character", "lowSurrogate", "(I)C"⟩, prog_17_method_29_code, 1, (some .char), 1, 0, 0)
def M_Rule_emit : mT := (4, ⟨"FishFerry$Rule", "emit", "(I)V"⟩, prog_5_method_9_code, 2, none, 1, 0, 0)
def M_Rule_takeBehind : mT := (4, ⟨"FishFerry$Rule", "takeBehind", "(I)Z"⟩, prog_5_method_5_code, 3, (some .boolean), 1, 0, 0)
def M_Rule_takeDigit : mT := (4, ⟨"FishFerry$Rule", "takeDigit", "(I)Z"⟩, prog_5_method_6_code, 2, (some .boolean), 1, 0, 0)
def M_Rule_closeOne : mT := (4, ⟨"FishFerry$Rule", "closeOne", "()Z"⟩, prog_5_method_7_code, 1, (some .boolean), 0, 0, 0)
def M_Rule_settle : mT := (4, ⟨"FishFerry$Rule", "settle", "(I)V"⟩, prog_5_method_11_code, 3, none, 1, 0, 0)
def M_Rule_bindingOf : mT := (4, ⟨"FishFerry$Rule", "bindingOf", "(I)I"⟩, prog_5_method_8_code, 1, (some .int), 1, 0, 0)
def M_X_sheet : mT := (12, ⟨"FishFerry", "sheet", "(IIII)I"⟩, prog_1_method_11_code, 5, (some .int), 4, 0, 0)
def M_School_strengthen : mT := (5, ⟨"FishFerry$School", "strengthen", "(IIII)I"⟩, prog_6_method_4_code, 9, (some .int), 4, 0, 0)
def M_X_hours : mT := (12, ⟨"FishFerry", "hours", "(I)I"⟩, prog_1_method_12_code, 3, (some .int), 1, 0, 0)
def M_X_passHours : mT := (12, ⟨"FishFerry", "passHours", "(I)I"⟩, prog_1_method_58_code, 2, (some .int), 1, 0, 0)
def M_Trip_pass : mT := (10, ⟨"FishFerry$Trip", "pass", "(LFishFerry$State;LFishFerry$Rule;I)V"⟩, prog_11_method_2_code, 6, none, 3, 0, 0)
def M_Tug_measure : mT := (11, ⟨"FishFerry$Tug", "measure", "(LFishFerry$State;LFishFerry$Rule;)V"⟩, prog_12_method_2_code, 10, none, 2, 0, 0)
def M_Fog_in : mT := (1, ⟨"FishFerry$Fog", "in", "(I)I"⟩, prog_2_method_4_code, 2, (some .int), 1, 0, 0)
def M_Math_floorMod : mT := (16, ⟨"java/lang/Math", "floorMod", "(II)I"⟩, prog_22_method_50_code, 3, (some .int), 2, 0, 0)
def M_State_holds : mT := (7, ⟨"FishFerry$State", "holds", "(I)Z"⟩, prog_8_method_5_code, 2, (some .boolean), 1, 0, 0)
def M_Lake_rowOf : mT := (2, ⟨"FishFerry$Lake", "rowOf", "(I)I"⟩, prog_3_method_7_code, 2, (some .int), 1, 0, 0)
def M_Lake_columnOf : mT := (2, ⟨"FishFerry$Lake", "columnOf", "(I)I"⟩, prog_3_method_8_code, 2, (some .int), 1, 0, 0)
def M_Math_abs : mT := (16, ⟨"java/lang/Math", "abs", "(I)I"⟩, prog_22_method_59_code, 1, (some .int), 1, 0, 0)
def M_Rule_pullBy : mT := (4, ⟨"FishFerry$Rule", "pullBy", "(I)I"⟩, prog_5_method_13_code, 3, (some .int), 1, 0, 0)
def M_Rule_reckon : mT := (4, ⟨"FishFerry$Rule", "reckon", "(I)I"⟩, prog_5_method_14_code, 6, (some .int), 1, 0, 0)
def M_Rule_joined : mT := (4, ⟨"FishFerry$Rule", "joined", "(III)I"⟩, prog_5_method_15_code, 3, (some .int), 3, 0, 0)
def M_Tug_head : mT := (11, ⟨"FishFerry$Tug", "head", "(III)V"⟩, prog_12_method_3_code, 8, none, 3, 0, 0)
def M_Tug_weigh : mT := (11, ⟨"FishFerry$Tug", "weigh", "(I)V"⟩, prog_12_method_7_code, 3, none, 1, 0, 0)
def M_Tug_addTo : mT := (11, ⟨"FishFerry$Tug", "addTo", "(II)V"⟩, prog_12_method_8_code, 3, none, 2, 0, 0)
def M_Tug_goesFrom : mT := (11, ⟨"FishFerry$Tug", "goesFrom", "(I)I"⟩, prog_12_method_9_code, 5, (some .int), 1, 0, 0)
def M_Lake_beside : mT := (2, ⟨"FishFerry$Lake", "beside", "(II)I"⟩, prog_3_method_10_code, 5, (some .int), 2, 0, 0)
def M_Lake_isRock : mT := (2, ⟨"FishFerry$Lake", "isRock", "(I)Z"⟩, prog_3_method_6_code, 2, (some .boolean), 1, 0, 0)
def M_Trip_move : mT := (10, ⟨"FishFerry$Trip", "move", "(LFishFerry$State;I)V"⟩, prog_11_method_3_code, 3, none, 2, 0, 0)
def M_Trip_tire : mT := (10, ⟨"FishFerry$Trip", "tire", "(LFishFerry$State;I)V"⟩, prog_11_method_4_code, 4, none, 2, 0, 0)
def M_Trip_reward : mT := (10, ⟨"FishFerry$Trip", "reward", "(LFishFerry$State;I)V"⟩, prog_11_method_5_code, 3, none, 2, 0, 0)
def M_X_noted : mT := (12, ⟨"FishFerry", "noted", "(I)I"⟩, prog_1_method_57_code, 2, (some .int), 1, 0, 0)
def M_Told_start : mT := (9, ⟨"FishFerry$Told", "start", "()V"⟩, prog_10_method_2_code, 1, none, 0, 0, 0)
def M_Told_add : mT := (9, ⟨"FishFerry$Told", "add", "(J)V"⟩, prog_10_method_3_code, 3, none, 1, 0, 0)
def M_X_promise : mT := (12, ⟨"FishFerry", "promise", "(III)I"⟩, prog_1_method_13_code, 4, (some .int), 3, 0, 0)
def M_X_takesBack : mT := (12, ⟨"FishFerry", "takesBack", "(I)I"⟩, prog_1_method_14_code, 2, (some .int), 1, 0, 0)
def M_X_dropPromise : mT := (12, ⟨"FishFerry", "dropPromise", "(I)I"⟩, prog_1_method_61_code, 2, (some .int), 1, 0, 0)
def M_X_letsGo : mT := (12, ⟨"FishFerry", "letsGo", "(I)I"⟩, prog_1_method_15_code, 2, (some .int), 1, 0, 0)
def M_X_turnHold : mT := (12, ⟨"FishFerry", "turnHold", "(LFishFerry$State;I)I"⟩, prog_1_method_62_code, 3, (some .int), 2, 0, 0)
def M_X_buys : mT := (12, ⟨"FishFerry", "buys", "(I)I"⟩, prog_1_method_16_code, 2, (some .int), 1, 0, 0)
def M_X_addCrumbs : mT := (12, ⟨"FishFerry", "addCrumbs", "(I)I"⟩, prog_1_method_63_code, 2, (some .int), 1, 0, 0)
def M_X_day : mT := (12, ⟨"FishFerry", "day", "()I"⟩, prog_1_method_17_code, 5, (some .int), 0, 0, 0)
def M_X_dayFault : mT := (12, ⟨"FishFerry", "dayFault", "()I"⟩, prog_1_method_55_code, 6, (some .int), 0, 0, 0)
def M_X_digitsBehind : mT := (12, ⟨"FishFerry", "digitsBehind", "(I)I"⟩, prog_1_method_54_code, 1, (some .int), 1, 0, 0)
def M_X_doAct : mT := (12, ⟨"FishFerry", "doAct", "(I)I"⟩, prog_1_method_56_code, 3, (some .int), 1, 0, 0)
def M_X_undo : mT := (12, ⟨"FishFerry", "undo", "()I"⟩, prog_1_method_18_code, 1, (some .int), 0, 0, 0)
def M_Past_pop : mT := (3, ⟨"FishFerry$Past", "pop", "(LFishFerry$State;)Z"⟩, prog_4_method_4_code, 2, (some .boolean), 1, 0, 0)
def M_X_towed : mT := (12, ⟨"FishFerry", "towed", "()I"⟩, prog_1_method_19_code, 2, (some .int), 0, 0, 0)
def M_X_ahead : mT := (12, ⟨"FishFerry", "ahead", "(I)I"⟩, prog_1_method_20_code, 2, (some .int), 1, 0, 0)
def M_X_comes : mT := (12, ⟨"FishFerry", "comes", "(I)I"⟩, prog_1_method_21_code, 3, (some .int), 1, 0, 0)
def M_X_arrivesBy : mT := (12, ⟨"FishFerry", "arrivesBy", "(IIII)I"⟩, prog_1_method_66_code, 6, (some .int), 4, 0, 0)
def M_Lake_gap : mT := (2, ⟨"FishFerry$Lake", "gap", "(II)I"⟩, prog_3_method_11_code, 3, (some .int), 2, 0, 0)
def M_X_sticks : mT := (12, ⟨"FishFerry", "sticks", "()I"⟩, prog_1_method_22_code, 2, (some .int), 0, 0, 0)
def M_X_track : mT := (12, ⟨"FishFerry", "track", "(I)J"⟩, prog_1_method_23_code, 6, (some .long), 1, 0, 0)
def M_Long_bitCount : mT := (23, ⟨"java/lang/Long", "bitCount", "(J)I"⟩, prog_21_method_50_code, 2, (some .int), 1, 0, 0)
def M_X_sends : mT := (12, ⟨"FishFerry", "sends", "(III)I"⟩, prog_1_method_24_code, 5, (some .int), 3, 0, 0)
def M_X_canBeAskedFor : mT := (12, ⟨"FishFerry", "canBeAskedFor", "(II)Z"⟩, prog_1_method_64_code, 3, (some .boolean), 2, 0, 0)
def M_X_fewestBy : mT := (12, ⟨"FishFerry", "fewestBy", "(IIII)I"⟩, prog_1_method_65_code, 10, (some .int), 4, 0, 0)
def M_Lake_measureFrom : mT := (2, ⟨"FishFerry$Lake", "measureFrom", "(I)V"⟩, prog_3_method_13_code, 6, none, 1, 0, 0)
def M_Lake_stepsTo : mT := (2, ⟨"FishFerry$Lake", "stepsTo", "(I)I"⟩, prog_3_method_14_code, 2, (some .int), 1, 0, 0)
def M_X_cheapest : mT := (12, ⟨"FishFerry", "cheapest", "(II)I"⟩, prog_1_method_25_code, 10, (some .int), 2, 0, 0)
def M_Rule_asksForCrumbs : mT := (4, ⟨"FishFerry$Rule", "asksForCrumbs", "()Z"⟩, prog_5_method_12_code, 2, (some .boolean), 0, 0, 0)
def M_X_matters : mT := (12, ⟨"FishFerry", "matters", "(I)I"⟩, prog_1_method_26_code, 7, (some .int), 1, 0, 0)
def M_X_keeps : mT := (12, ⟨"FishFerry", "keeps", "()I"⟩, prog_1_method_27_code, 9, (some .int), 0, 0, 0)
def M_State_crumbsOf : mT := (7, ⟨"FishFerry$State", "crumbsOf", "(II)I"⟩, prog_8_method_6_code, 5, (some .int), 2, 0, 0)
def M_X_owed : mT := (12, ⟨"FishFerry", "owed", "()I"⟩, prog_1_method_28_code, 3, (some .int), 0, 0, 0)
def M_X_fates : mT := (12, ⟨"FishFerry", "fates", "(I)I"⟩, prog_1_method_29_code, 2, (some .int), 1, 0, 0)
def M_X_minds : mT := (12, ⟨"FishFerry", "minds", "()I"⟩, prog_1_method_30_code, 4, (some .int), 0, 0, 0)
def M_Lake_isDiagonal : mT := (2, ⟨"FishFerry$Lake", "isDiagonal", "(II)Z"⟩, prog_3_method_12_code, 3, (some .boolean), 2, 0, 0)
def M_X_evens : mT := (12, ⟨"FishFerry", "evens", "()I"⟩, prog_1_method_31_code, 7, (some .int), 0, 0, 0)
def M_Tug_pullers : mT := (11, ⟨"FishFerry$Tug", "pullers", "()I"⟩, prog_12_method_5_code, 3, (some .int), 0, 0, 0)
def M_Tug_pullOf : mT := (11, ⟨"FishFerry$Tug", "pullOf", "(I)I"⟩, prog_12_method_6_code, 4, (some .int), 1, 0, 0)
def M_X_strongest : mT := (12, ⟨"FishFerry", "strongest", "()I"⟩, prog_1_method_32_code, 5, (some .int), 0, 0, 0)
def M_X_sways : mT := (12, ⟨"FishFerry", "sways", "(I)I"⟩, prog_1_method_33_code, 5, (some .int), 1, 0, 0)
def M_X_goesWith : mT := (12, ⟨"FishFerry", "goesWith", "(I)I"⟩, prog_1_method_67_code, 2, (some .int), 1, 0, 0)
def M_X_seen : mT := (12, ⟨"FishFerry", "seen", "(III)I"⟩, prog_1_method_34_code, 4, (some .int), 3, 0, 0)
def M_Sights_add : mT := (6, ⟨"FishFerry$Sights", "add", "(IIZ)Z"⟩, prog_7_method_2_code, 4, (some .boolean), 3, 0, 0)
def M_X_forget : mT := (12, ⟨"FishFerry", "forget", "()I"⟩, prog_1_method_35_code, 2, (some .int), 0, 0, 0)
def M_X_fits : mT := (12, ⟨"FishFerry", "fits", "()I"⟩, prog_1_method_36_code, 2, (some .int), 0, 0, 0)
def M_X_fitting : mT := (12, ⟨"FishFerry", "fitting", "()I"⟩, prog_1_method_69_code, 3, (some .int), 0, 0, 0)
def M_X_follow : mT := (12, ⟨"FishFerry", "follow", "(I)V"⟩, prog_1_method_68_code, 3, none, 1, 0, 0)
def M_Sights_agreeWith : mT := (6, ⟨"FishFerry$Sights", "agreeWith", "([I)Z"⟩, prog_7_method_4_code, 4, (some .boolean), 1, 0, 0)
def M_X_looks : mT := (12, ⟨"FishFerry", "looks", "()I"⟩, prog_1_method_37_code, 6, (some .int), 0, 0, 0)
def M_X_mostTogether : mT := (12, ⟨"FishFerry", "mostTogether", "(II)I"⟩, prog_1_method_70_code, 8, (some .int), 2, 0, 0)
def M_X_way : mT := (12, ⟨"FishFerry", "way", "(II)I"⟩, prog_1_method_38_code, 6, (some .int), 2, 0, 0)
def M_Lake_nextBy : mT := (2, ⟨"FishFerry$Lake", "nextBy", "(II)I"⟩, prog_3_method_15_code, 6, (some .int), 2, 0, 0)
def M_X_farthest : mT := (12, ⟨"FishFerry", "farthest", "()I"⟩, prog_1_method_39_code, 7, (some .int), 0, 0, 0)
def M_X_drifts : mT := (12, ⟨"FishFerry", "drifts", "(II)I"⟩, prog_1_method_40_code, 11, (some .int), 2, 0, 0)
def M_X_power : mT := (12, ⟨"FishFerry", "power", "(II)J"⟩, prog_1_method_71_code, 5, (some .long), 2, 0, 0)
def M_X_sharedDivisor : mT := (12, ⟨"FishFerry", "sharedDivisor", "(JJ)J"⟩, prog_1_method_72_code, 11, (some .long), 2, 0, 0)
def M_X_game : mT := (12, ⟨"FishFerry", "game", "(II)I"⟩, prog_1_method_41_code, 10, (some .int), 2, 0, 0)
def M_X_leaves : mT := (12, ⟨"FishFerry", "leaves", "(JII)Z"⟩, prog_1_method_73_code, 4, (some .boolean), 3, 0, 0)
def M_X_law : mT := (12, ⟨"FishFerry", "law", "()I"⟩, prog_1_method_42_code, 3, (some .int), 0, 0, 0)
def M_X_rests : mT := (12, ⟨"FishFerry", "rests", "(I)I"⟩, prog_1_method_43_code, 5, (some .int), 1, 0, 0)
def M_X_isContent : mT := (12, ⟨"FishFerry", "isContent", "(III)Z"⟩, prog_1_method_75_code, 4, (some .boolean), 3, 0, 0)
def M_X_gain : mT := (12, ⟨"FishFerry", "gain", "(III)I"⟩, prog_1_method_74_code, 3, (some .int), 3, 0, 0)
def M_X_years : mT := (12, ⟨"FishFerry", "years", "(II)I"⟩, prog_1_method_44_code, 6, (some .int), 2, 0, 0)
def M_X_nextDraw : mT := (12, ⟨"FishFerry", "nextDraw", "(I)I"⟩, prog_1_method_76_code, 1, (some .int), 1, 0, 0)
def M_X_drawn : mT := (12, ⟨"FishFerry", "drawn", "(II)I"⟩, prog_1_method_77_code, 2, (some .int), 2, 0, 0)
def M_X_drawAct : mT := (12, ⟨"FishFerry", "drawAct", "(II)I"⟩, prog_1_method_78_code, 6, (some .int), 2, 0, 0)
def M_X_keep : mT := (12, ⟨"FishFerry", "keep", "(I)Z"⟩, prog_1_method_45_code, 2, (some .boolean), 1, 0, 0)
def M_X_again : mT := (12, ⟨"FishFerry", "again", "(I)Z"⟩, prog_1_method_46_code, 2, (some .boolean), 1, 0, 0)
def M_X_count : mT := (12, ⟨"FishFerry", "count", "(I)I"⟩, prog_1_method_47_code, 2, (some .int), 1, 0, 0)
def M_L_one : mT := (0, ⟨"FishFerryLaw", "one", "(LFishFerry;II[J)I"⟩, method_3_code, 5, (some .int), 4, 1, 8)
def M_X_one : mT := (12, ⟨"FishFerry", "one", "(II)I"⟩, prog_1_method_9_code, 3, (some .int), 2, 0, 0)
def M_Throwable_init : mT := (24, ⟨"java/lang/Throwable", "<init>", "()V"⟩, prog_28_method_1_code, 1, none, 0, 0, 0)
def M_Throwable_fillInStackTrace : mT := (24, ⟨"java/lang/Throwable", "fillInStackTrace", "()Ljava/lang/Throwable;"⟩, prog_28_method_18_code, 1, (some (.object "java/lang/Throwable")), 0, 0, 0)
def M_NoSuchElementException_init : mT := (25, ⟨"java/util/NoSuchElementException", "<init>", "()V"⟩, prog_32_method_1_code, 1, none, 0, 0, 0)
def M_RuntimeException_init : mT := (26, ⟨"java/lang/RuntimeException", "<init>", "()V"⟩, prog_23_method_1_code, 1, none, 0, 0, 0)
def M_Exception_init : mT := (27, ⟨"java/lang/Exception", "<init>", "()V"⟩, prog_19_method_1_code, 1, none, 0, 0, 0)
def M_Tug_headingOf : mT := (11, ⟨"FishFerry$Tug", "headingOf", "(I)I"⟩, prog_12_method_4_code, 2, (some .int), 1, 0, 0)
def M_L_field : mT := (0, ⟨"FishFerryLaw", "field", "(LFishFerry;II[J)I"⟩, method_4_code, 5, (some .int), 4, 1, 8)
def M_X_field : mT := (12, ⟨"FishFerry", "field", "(II)I"⟩, prog_1_method_10_code, 5, (some .int), 2, 0, 0)
def M_L_row : mT := (0, ⟨"FishFerryLaw", "row", "(LFishFerry;I[J)I"⟩, method_5_code, 4, (some .int), 3, 1, 8)
def M_X_row : mT := (12, ⟨"FishFerry", "row", "(I)J"⟩, prog_1_method_48_code, 2, (some .long), 1, 0, 0)
def M_Y_thrown : mT := (13, ⟨"FishFerryModel", "thrown", "()I"⟩, prog_14_method_1_code, 1, (some .int), 0, 0, 0)
def M_Y_init : mT := (13, ⟨"FishFerryModel", "<init>", "()V"⟩, prog_14_method_9_code, 1, none, 0, 34, 2121)
def M_Y_sign : mT := (13, ⟨"FishFerryModel", "sign", "(I)I"⟩, prog_14_method_15_code, 3, (some .int), 1, 0, 0)
def M_Y_end : mT := (13, ⟨"FishFerryModel", "end", "(I)Z"⟩, prog_14_method_16_code, 2, (some .boolean), 1, 0, 0)
def M_Y_in : mT := (13, ⟨"FishFerryModel", "in", "(JJJ)Z"⟩, prog_14_method_3_code, 6, (some .boolean), 3, 0, 0)
def M_Y_lake : mT := (13, ⟨"FishFerryModel", "lake", "()I"⟩, prog_14_method_24_code, 6, (some .int), 0, 0, 0)
def M_Y_begins : mT := (13, ⟨"FishFerryModel", "begins", "(I)I"⟩, prog_14_method_17_code, 3, (some .int), 1, 0, 0)
def M_Y_digitIn : mT := (13, ⟨"FishFerryModel", "digitIn", "(II)I"⟩, prog_14_method_22_code, 3, (some .int), 2, 0, 0)
def M_Y_takesOf : mT := (13, ⟨"FishFerryModel", "takesOf", "(Ljava/lang/String;)I"⟩, prog_14_method_20_code, 3, (some .int), 1, 0, 0)
def M_String_charAt : mT := (18, ⟨"java/lang/String", "charAt", "(I)C"⟩, prog_24_method_56_code, 2, (some .char), 1, 0, 0)
def M_StringLatin1_charAt : mT := (19, ⟨"java/lang/StringLatin1", "charAt", "([BI)C"⟩, prog_25_method_2_code, 2, (some .char), 2, 0, 0)
def M_String_checkIndex : mT := (18, ⟨"java/lang/String", "checkIndex", "(II)V"⟩, prog_24_method_155_code, 2, none, 2, 0, 0)
def M_Preconditions_checkIndex : mT := (21, ⟨"jdk/internal/util/Preconditions", "checkIndex", "(IILjava/util/function/BiFunction;)I"⟩, prog_33_method_11_code, 3, (some .int), 3, 0, 0)
def M_StringUTF16_charAt : mT := (20, ⟨"java/lang/StringUTF16", "charAt", "([BI)C"⟩, prog_26_method_83_code, 2, (some .char), 2, 0, 0)
def M_StringUTF16_checkIndex : mT := (20, ⟨"java/lang/StringUTF16", "checkIndex", "(I[B)V"⟩, prog_26_method_91_code, 2, none, 2, 0, 0)
def M_Y_fields : mT := (13, ⟨"FishFerryModel", "fields", "()I"⟩, prog_14_method_10_code, 1, (some .int), 0, 0, 0)
def M_Y_fish : mT := (13, ⟨"FishFerryModel", "fish", "()I"⟩, prog_14_method_26_code, 6, (some .int), 0, 0, 0)
def M_Y_readsFish : mT := (13, ⟨"FishFerryModel", "readsFish", "()Z"⟩, prog_14_method_25_code, 2, (some .boolean), 0, 0, 0)
def M_Y_takes : mT := (13, ⟨"FishFerryModel", "takes", "(I)Z"⟩, prog_14_method_18_code, 3, (some .boolean), 1, 0, 0)
def M_Y_flag : mT := (13, ⟨"FishFerryModel", "flag", "(Z)I"⟩, prog_14_method_5_code, 1, (some .int), 1, 0, 0)
def M_Y_faultOf : mT := (13, ⟨"FishFerryModel", "faultOf", "(IIZ)I"⟩, prog_14_method_23_code, 5, (some .int), 3, 0, 0)
def M_Y_oar : mT := (13, ⟨"FishFerryModel", "oar", "()I"⟩, prog_14_method_29_code, 5, (some .int), 0, 0, 0)
def M_Y_readsPromise : mT := (13, ⟨"FishFerryModel", "readsPromise", "()Z"⟩, prog_14_method_28_code, 5, (some .boolean), 0, 0, 0)
def M_Y_canBePromised : mT := (13, ⟨"FishFerryModel", "canBePromised", "([II)Z"⟩, prog_14_method_27_code, 3, (some .boolean), 2, 0, 0)
def M_Y_number : mT := (13, ⟨"FishFerryModel", "number", "(I)I"⟩, prog_14_method_21_code, 4, (some .int), 1, 0, 0)
def M_Y_isDigit : mT := (13, ⟨"FishFerryModel", "isDigit", "()Z"⟩, prog_14_method_19_code, 1, (some .boolean), 0, 0, 0)
def M_Y_putsBy : mT := (13, ⟨"FishFerryModel", "putsBy", "()V"⟩, prog_14_method_54_code, 2, none, 0, 0, 0)
def M_Y_adds : mT := (13, ⟨"FishFerryModel", "adds", "(I)I"⟩, prog_14_method_55_code, 3, (some .int), 1, 0, 0)
def M_Y_fog : mT := (13, ⟨"FishFerryModel", "fog", "()I"⟩, prog_14_method_30_code, 3, (some .int), 0, 0, 0)
def M_Y_rule : mT := (13, ⟨"FishFerryModel", "rule", "()I"⟩, prog_14_method_37_code, 2, (some .int), 0, 0, 0)
def M_Y_readsRule : mT := (13, ⟨"FishFerryModel", "readsRule", "()I"⟩, prog_14_method_35_code, 3, (some .int), 0, 0, 0)
def M_Y_readsRank : mT := (13, ⟨"FishFerryModel", "readsRank", "(I)Z"⟩, prog_14_method_34_code, 4, (some .boolean), 1, 0, 0)
def M_Y_readsThing : mT := (13, ⟨"FishFerryModel", "readsThing", "()Z"⟩, prog_14_method_33_code, 2, (some .boolean), 0, 0, 0)
def M_Y_codes : mT := (13, ⟨"FishFerryModel", "codes", "(I)V"⟩, prog_14_method_32_code, 2, none, 1, 0, 0)
def M_Y_laysCode : mT := (13, ⟨"FishFerryModel", "laysCode", "([II)V"⟩, prog_14_method_36_code, 4, none, 2, 0, 0)
def M_Y_one : mT := (13, ⟨"FishFerryModel", "one", "(II)I"⟩, prog_14_method_51_code, 3, (some .int), 2, 0, 0)
def M_Y_isFish : mT := (13, ⟨"FishFerryModel", "isFish", "(I)Z"⟩, prog_14_method_12_code, 2, (some .boolean), 1, 0, 0)
def M_Y_refuse : mT := (13, ⟨"FishFerryModel", "refuse", "()I"⟩, prog_14_method_2_code, 1, (some .int), 0, 0, 0)
def M_Y_has : mT := (13, ⟨"FishFerryModel", "has", "(JI)Z"⟩, prog_14_method_4_code, 3, (some .boolean), 2, 0, 0)
def M_Y_pull : mT := (13, ⟨"FishFerryModel", "pull", "([II)I"⟩, prog_14_method_40_code, 4, (some .int), 2, 0, 0)
def M_Y_fogOn : mT := (13, ⟨"FishFerryModel", "fogOn", "(I)I"⟩, prog_14_method_31_code, 2, (some .int), 1, 0, 0)
def M_Y_far : mT := (13, ⟨"FishFerryModel", "far", "(II)I"⟩, prog_14_method_13_code, 3, (some .int), 2, 0, 0)
def M_Y_ruled : mT := (13, ⟨"FishFerryModel", "ruled", "()I"⟩, prog_14_method_39_code, 4, (some .int), 0, 0, 0)
def M_Y_worked : mT := (13, ⟨"FishFerryModel", "worked", "(III)I"⟩, prog_14_method_38_code, 3, (some .int), 3, 0, 0)
def M_Y_wayOf : mT := (13, ⟨"FishFerryModel", "wayOf", "([II)I"⟩, prog_14_method_46_code, 4, (some .int), 2, 0, 0)
def M_Y_isOfTwoMinds : mT := (13, ⟨"FishFerryModel", "isOfTwoMinds", "([II)Z"⟩, prog_14_method_43_code, 3, (some .boolean), 2, 0, 0)
def M_Y_rowsBetween : mT := (13, ⟨"FishFerryModel", "rowsBetween", "([II)I"⟩, prog_14_method_41_code, 3, (some .int), 2, 0, 0)
def M_Y_columnsBetween : mT := (13, ⟨"FishFerryModel", "columnsBetween", "([II)I"⟩, prog_14_method_42_code, 3, (some .int), 2, 0, 0)
def M_Y_upOrDown : mT := (13, ⟨"FishFerryModel", "upOrDown", "([II)I"⟩, prog_14_method_44_code, 3, (some .int), 2, 0, 0)
def M_Y_rightOrLeft : mT := (13, ⟨"FishFerryModel", "rightOrLeft", "([II)I"⟩, prog_14_method_45_code, 3, (some .int), 2, 0, 0)
def M_Y_field : mT := (13, ⟨"FishFerryModel", "field", "(II)I"⟩, prog_14_method_52_code, 5, (some .int), 2, 0, 0)
def M_Y_isField : mT := (13, ⟨"FishFerryModel", "isField", "(I)Z"⟩, prog_14_method_11_code, 2, (some .boolean), 1, 0, 0)
def M_Y_sheet : mT := (13, ⟨"FishFerryModel", "sheet", "(IIII)I"⟩, prog_14_method_53_code, 9, (some .int), 4, 0, 0)
def M_Y_undo : mT := (13, ⟨"FishFerryModel", "undo", "()I"⟩, prog_14_method_57_code, 2, (some .int), 0, 0, 0)
def M_Y_hours : mT := (13, ⟨"FishFerryModel", "hours", "(I)I"⟩, prog_14_method_66_code, 2, (some .int), 1, 0, 0)
def M_Y_goesOn : mT := (13, ⟨"FishFerryModel", "goesOn", "([II)V"⟩, prog_14_method_60_code, 4, none, 2, 0, 0)
def M_Y_hourGoes : mT := (13, ⟨"FishFerryModel", "hourGoes", "([I)V"⟩, prog_14_method_59_code, 4, none, 1, 0, 0)
def M_Y_goes : mT := (13, ⟨"FishFerryModel", "goes", "([I)I"⟩, prog_14_method_50_code, 2, (some .int), 1, 0, 0)
def M_Y_laysPulls : mT := (13, ⟨"FishFerryModel", "laysPulls", "([I)V"⟩, prog_14_method_47_code, 3, none, 1, 0, 0)
def M_Y_goesBy : mT := (13, ⟨"FishFerryModel", "goesBy", "([II)I"⟩, prog_14_method_49_code, 5, (some .int), 2, 0, 0)
def M_Y_net : mT := (13, ⟨"FishFerryModel", "net", "(I)I"⟩, prog_14_method_48_code, 2, (some .int), 1, 0, 0)
def M_Y_beside : mT := (13, ⟨"FishFerryModel", "beside", "(II)I"⟩, prog_14_method_14_code, 5, (some .int), 2, 0, 0)
def M_Y_comesTrue : mT := (13, ⟨"FishFerryModel", "comesTrue", "([II)V"⟩, prog_14_method_58_code, 4, none, 2, 0, 0)
def M_Y_enters : mT := (13, ⟨"FishFerryModel", "enters", "(J)V"⟩, prog_14_method_7_code, 3, none, 1, 0, 0)
def M_Y_promise : mT := (13, ⟨"FishFerryModel", "promise", "(III)I"⟩, prog_14_method_67_code, 4, (some .int), 3, 0, 0)
def M_Y_promises : mT := (13, ⟨"FishFerryModel", "promises", "([IIII)I"⟩, prog_14_method_62_code, 5, (some .int), 4, 0, 0)
def M_Y_promised : mT := (13, ⟨"FishFerryModel", "promised", "([I)I"⟩, prog_14_method_61_code, 4, (some .int), 1, 0, 0)
def M_Y_counted : mT := (13, ⟨"FishFerryModel", "counted", "(I)I"⟩, prog_14_method_56_code, 2, (some .int), 1, 0, 0)
def M_Y_takesBack : mT := (13, ⟨"FishFerryModel", "takesBack", "(I)I"⟩, prog_14_method_68_code, 2, (some .int), 1, 0, 0)
def M_Y_takesOne : mT := (13, ⟨"FishFerryModel", "takesOne", "(I)I"⟩, prog_14_method_63_code, 2, (some .int), 1, 0, 0)
def M_Y_letsGo : mT := (13, ⟨"FishFerryModel", "letsGo", "(I)I"⟩, prog_14_method_69_code, 2, (some .int), 1, 0, 0)
def M_Y_letsOne : mT := (13, ⟨"FishFerryModel", "letsOne", "([II)I"⟩, prog_14_method_64_code, 3, (some .int), 2, 0, 0)
def M_Y_buys : mT := (13, ⟨"FishFerryModel", "buys", "(I)I"⟩, prog_14_method_70_code, 2, (some .int), 1, 0, 0)
def M_Y_buysSome : mT := (13, ⟨"FishFerryModel", "buysSome", "(I)I"⟩, prog_14_method_65_code, 2, (some .int), 1, 0, 0)
def M_Y_day : mT := (13, ⟨"FishFerryModel", "day", "()I"⟩, prog_14_method_73_code, 5, (some .int), 0, 0, 0)
def M_Y_readsAct : mT := (13, ⟨"FishFerryModel", "readsAct", "()Z"⟩, prog_14_method_71_code, 2, (some .boolean), 0, 0, 0)
def M_Y_does : mT := (13, ⟨"FishFerryModel", "does", "(I)Z"⟩, prog_14_method_72_code, 4, (some .boolean), 1, 0, 0)
def M_Y_towed : mT := (13, ⟨"FishFerryModel", "towed", "()I"⟩, prog_14_method_75_code, 3, (some .int), 0, 0, 0)
def M_Y_ahead : mT := (13, ⟨"FishFerryModel", "ahead", "(I)I"⟩, prog_14_method_76_code, 2, (some .int), 1, 0, 0)
def M_Y_copies : mT := (13, ⟨"FishFerryModel", "copies", "()V"⟩, prog_14_method_74_code, 2, none, 0, 0, 0)
def M_Y_comes : mT := (13, ⟨"FishFerryModel", "comes", "(I)I"⟩, prog_14_method_78_code, 3, (some .int), 1, 0, 0)
def M_Y_comesIn : mT := (13, ⟨"FishFerryModel", "comesIn", "(II)I"⟩, prog_14_method_77_code, 4, (some .int), 2, 0, 0)
def M_Y_sticks : mT := (13, ⟨"FishFerryModel", "sticks", "()I"⟩, prog_14_method_79_code, 2, (some .int), 0, 0, 0)
def M_Y_track : mT := (13, ⟨"FishFerryModel", "track", "(I)J"⟩, prog_14_method_80_code, 5, (some .long), 1, 0, 0)
def M_Y_sends : mT := (13, ⟨"FishFerryModel", "sends", "(III)I"⟩, prog_14_method_84_code, 7, (some .int), 3, 0, 0)
def M_Y_able : mT := (13, ⟨"FishFerryModel", "able", "()I"⟩, prog_14_method_81_code, 3, (some .int), 0, 0, 0)
def M_Y_isFewer : mT := (13, ⟨"FishFerryModel", "isFewer", "(II)Z"⟩, prog_14_method_83_code, 2, (some .boolean), 2, 0, 0)
def M_Y_sentIn : mT := (13, ⟨"FishFerryModel", "sentIn", "(IIII)I"⟩, prog_14_method_82_code, 6, (some .int), 4, 0, 0)
def M_Y_cheapest : mT := (13, ⟨"FishFerryModel", "cheapest", "(II)I"⟩, prog_14_method_85_code, 11, (some .int), 2, 0, 0)
def M_Y_matters : mT := (13, ⟨"FishFerryModel", "matters", "(I)I"⟩, prog_14_method_86_code, 7, (some .int), 1, 0, 0)
def M_Y_keeps : mT := (13, ⟨"FishFerryModel", "keeps", "()I"⟩, prog_14_method_88_code, 5, (some .int), 0, 0, 0)
def M_Y_crumbsOf : mT := (13, ⟨"FishFerryModel", "crumbsOf", "(I)I"⟩, prog_14_method_87_code, 4, (some .int), 1, 0, 0)
def M_Y_owed : mT := (13, ⟨"FishFerryModel", "owed", "()I"⟩, prog_14_method_89_code, 2, (some .int), 0, 0, 0)
def M_Y_fates : mT := (13, ⟨"FishFerryModel", "fates", "(I)I"⟩, prog_14_method_90_code, 8, (some .int), 1, 0, 0)
def M_Y_minds : mT := (13, ⟨"FishFerryModel", "minds", "()I"⟩, prog_14_method_91_code, 5, (some .int), 0, 0, 0)
def M_Y_evens : mT := (13, ⟨"FishFerryModel", "evens", "()I"⟩, prog_14_method_94_code, 5, (some .int), 0, 0, 0)
def M_Y_pulling : mT := (13, ⟨"FishFerryModel", "pulling", "()I"⟩, prog_14_method_93_code, 3, (some .int), 0, 0, 0)
def M_Y_pullOf : mT := (13, ⟨"FishFerryModel", "pullOf", "(I)I"⟩, prog_14_method_92_code, 4, (some .int), 1, 0, 0)
def M_Y_strongest : mT := (13, ⟨"FishFerryModel", "strongest", "()I"⟩, prog_14_method_95_code, 4, (some .int), 0, 0, 0)
def M_Y_sways : mT := (13, ⟨"FishFerryModel", "sways", "(I)I"⟩, prog_14_method_96_code, 6, (some .int), 1, 0, 0)
def M_Y_seen : mT := (13, ⟨"FishFerryModel", "seen", "(III)I"⟩, prog_14_method_97_code, 4, (some .int), 3, 0, 0)
def M_Y_forget : mT := (13, ⟨"FishFerryModel", "forget", "()I"⟩, prog_14_method_98_code, 2, (some .int), 0, 0, 0)
def M_Y_fits : mT := (13, ⟨"FishFerryModel", "fits", "()I"⟩, prog_14_method_102_code, 2, (some .int), 0, 0, 0)
def M_Y_fitting : mT := (13, ⟨"FishFerryModel", "fitting", "()I"⟩, prog_14_method_101_code, 3, (some .int), 0, 0, 0)
def M_Y_isAsSeen : mT := (13, ⟨"FishFerryModel", "isAsSeen", "(I)Z"⟩, prog_14_method_100_code, 4, (some .boolean), 1, 0, 0)
def M_Y_place : mT := (13, ⟨"FishFerryModel", "place", "(II)I"⟩, prog_14_method_99_code, 2, (some .int), 2, 0, 0)
def M_Y_looks : mT := (13, ⟨"FishFerryModel", "looks", "()I"⟩, prog_14_method_103_code, 8, (some .int), 0, 0, 0)
def M_Y_way : mT := (13, ⟨"FishFerryModel", "way", "(II)I"⟩, prog_14_method_105_code, 8, (some .int), 2, 0, 0)
def M_Y_laysSteps : mT := (13, ⟨"FishFerryModel", "laysSteps", "(I)V"⟩, prog_14_method_104_code, 6, none, 1, 0, 0)
def M_Y_farthest : mT := (13, ⟨"FishFerryModel", "farthest", "()I"⟩, prog_14_method_106_code, 6, (some .int), 0, 0, 0)
def M_Y_drifts : mT := (13, ⟨"FishFerryModel", "drifts", "(II)I"⟩, prog_14_method_107_code, 12, (some .int), 2, 0, 0)
def M_Y_tellsFraction : mT := (13, ⟨"FishFerryModel", "tellsFraction", "(JJ)V"⟩, prog_14_method_8_code, 7, none, 2, 0, 0)
def M_Y_common : mT := (13, ⟨"FishFerryModel", "common", "(JJ)J"⟩, prog_14_method_6_code, 4, (some .long), 2, 0, 0)
def M_Y_game : mT := (13, ⟨"FishFerryModel", "game", "(II)I"⟩, prog_14_method_108_code, 4, (some .int), 2, 0, 0)
def M_Y_law : mT := (13, ⟨"FishFerryModel", "law", "()I"⟩, prog_14_method_109_code, 5, (some .int), 0, 0, 0)
def M_Y_rests : mT := (13, ⟨"FishFerryModel", "rests", "(I)I"⟩, prog_14_method_112_code, 5, (some .int), 1, 0, 0)
def M_Y_isRest : mT := (13, ⟨"FishFerryModel", "isRest", "(III)Z"⟩, prog_14_method_111_code, 5, (some .boolean), 3, 0, 0)
def M_Y_gets : mT := (13, ⟨"FishFerryModel", "gets", "(III)I"⟩, prog_14_method_110_code, 3, (some .int), 3, 0, 0)
def M_Y_years : mT := (13, ⟨"FishFerryModel", "years", "(II)I"⟩, prog_14_method_114_code, 7, (some .int), 2, 0, 0)
def M_Y_draws : mT := (13, ⟨"FishFerryModel", "draws", "(I)I"⟩, prog_14_method_113_code, 2, (some .int), 1, 0, 0)
def M_Y_keep : mT := (13, ⟨"FishFerryModel", "keep", "(I)Z"⟩, prog_14_method_115_code, 3, (some .boolean), 1, 0, 0)
def M_Y_again : mT := (13, ⟨"FishFerryModel", "again", "(I)Z"⟩, prog_14_method_116_code, 3, (some .boolean), 1, 0, 0)
def M_Y_count : mT := (13, ⟨"FishFerryModel", "count", "(I)I"⟩, prog_14_method_117_code, 2, (some .int), 1, 0, 0)
def M_Y_row : mT := (13, ⟨"FishFerryModel", "row", "(I)J"⟩, prog_14_method_118_code, 2, (some .long), 1, 0, 0)
def M_L_law : mT := (0, x, code, 8, ret, 1, 601024, 7293034)
/-- links of fields, by the number of the class that has the link: its index, the class of the field, its slot, 1 for a nest mate's, the place of the word -/
def xFL : List (List (Nat × Nat × Nat × Nat × Nat)) := [
  [],
  [(11, 0, 0, 0, 217), (15, 0, 1, 0, 218)],
  [(9, 1, 0, 0, 168), (15, 1, 1, 0, 170), (18, 1, 2, 0, 172), (22, 1, 3, 0, 173), (26, 1, 4, 0, 174)],
  [(11, 2, 0, 0, 362), (15, 2, 1, 0, 363), (19, 2, 2, 0, 364)],
  [(11, 3, 0, 0, 413), (15, 3, 1, 0, 414), (19, 3, 2, 0, 415), (22, 3, 3, 0, 416), (25, 3, 4, 0, 417), (28, 3, 5, 0, 418), (31, 3, 6, 0, 419), (34, 3, 7, 0, 420), (37, 3, 8, 0, 421), (41, 3, 9, 0, 422), (44, 3, 10, 0, 423)],
  [(9, 4, 0, 0, 194), (15, 4, 1, 0, 197), (18, 4, 2, 0, 200)],
  [(9, 5, 0, 0, 379), (13, 5, 1, 0, 380), (16, 5, 2, 0, 381), (20, 5, 3, 0, 382)],
  [(9, 6, 0, 0, 297), (15, 6, 1, 0, 301), (18, 6, 2, 0, 304), (21, 6, 3, 0, 307), (24, 6, 4, 0, 310), (27, 6, 5, 0, 314), (30, 6, 6, 0, 316), (34, 6, 7, 0, 320), (37, 6, 8, 0, 324), (40, 6, 9, 0, 328)],
  [(11, 7, 0, 0, 138), (15, 7, 1, 0, 139)],
  [(9, 8, 0, 0, 152), (15, 8, 1, 0, 154)],
  [(62, 4, 2, 1, 202), (86, 10, 3, 1, 234), (27, 9, 0, 0, 261), (31, 9, 1, 0, 262), (35, 9, 2, 0, 263), (9, 9, 3, 0, 264), (15, 9, 4, 0, 266), (18, 9, 5, 0, 268), (21, 9, 6, 0, 270), (24, 9, 7, 0, 272), (49, 6, 0, 1, 298), (100, 6, 1, 1, 302), (106, 6, 2, 1, 305), (110, 6, 3, 1, 308), (77, 6, 4, 1, 312), (89, 6, 6, 1, 318), (107, 6, 7, 1, 322), (70, 6, 8, 1, 326), (103, 6, 9, 1, 330)],
  [(92, 4, 0, 1, 195), (80, 4, 1, 1, 198), (54, 4, 2, 1, 201), (24, 10, 0, 0, 230), (28, 10, 1, 0, 231), (32, 10, 2, 0, 232), (9, 10, 3, 0, 233), (15, 10, 4, 0, 236), (18, 10, 5, 0, 237), (21, 10, 6, 0, 238), (62, 6, 0, 1, 299), (36, 6, 4, 1, 311), (83, 6, 6, 1, 317), (89, 6, 7, 1, 321), (59, 6, 8, 1, 325), (86, 6, 9, 1, 329)],
  [(419, 8, 0, 1, 153), (418, 8, 1, 1, 155), (409, 1, 0, 1, 169), (412, 1, 1, 1, 171), (178, 4, 0, 1, 196), (182, 4, 1, 1, 199), (131, 4, 2, 1, 203), (204, 10, 3, 1, 235), (285, 10, 6, 1, 239), (231, 9, 3, 1, 265), (238, 9, 4, 1, 267), (241, 9, 5, 1, 269), (338, 9, 6, 1, 271), (335, 9, 7, 1, 273), (137, 6, 0, 1, 300), (295, 6, 1, 1, 303), (298, 6, 2, 1, 306), (299, 6, 3, 1, 309), (140, 6, 4, 1, 313), (134, 6, 5, 1, 315), (185, 6, 6, 1, 319), (188, 6, 7, 1, 323), (194, 6, 8, 1, 327), (197, 6, 9, 1, 331), (280, 2, 2, 1, 365), (359, 5, 3, 1, 383), (10, 11, 0, 0, 448), (19, 11, 1, 0, 449), (26, 11, 2, 0, 450), (33, 11, 3, 0, 451), (40, 11, 4, 0, 452), (49, 11, 5, 0, 453), (58, 11, 6, 0, 454), (65, 11, 7, 0, 455), (69, 11, 8, 0, 456), (72, 11, 9, 0, 457), (78, 11, 10, 0, 458), (85, 11, 11, 0, 459), (89, 11, 12, 0, 460), (95, 11, 13, 0, 461), (98, 11, 14, 0, 462), (105, 11, 15, 0, 463), (109, 11, 16, 0, 464)],
  [(3, 12, 0, 0, 1287), (15, 12, 1, 0, 1288), (11, 12, 2, 0, 1289), (28, 12, 3, 0, 1290), (31, 12, 4, 0, 1291), (146, 12, 5, 0, 1292), (207, 12, 6, 0, 1293), (34, 12, 7, 0, 1294), (37, 12, 8, 0, 1295), (41, 12, 9, 0, 1296), (45, 12, 10, 0, 1297), (48, 12, 11, 0, 1298), (51, 12, 12, 0, 1299), (54, 12, 13, 0, 1300), (57, 12, 14, 0, 1301), (155, 12, 15, 0, 1302), (158, 12, 16, 0, 1303), (168, 12, 17, 0, 1304), (161, 12, 18, 0, 1305), (60, 12, 19, 0, 1306), (63, 12, 20, 0, 1307), (213, 12, 21, 0, 1308), (66, 12, 22, 0, 1309), (69, 12, 23, 0, 1310), (266, 12, 24, 0, 1311), (245, 12, 25, 0, 1312), (72, 12, 26, 0, 1313), (75, 12, 27, 0, 1314), (78, 12, 28, 0, 1315), (81, 12, 29, 0, 1316), (204, 12, 30, 0, 1317), (84, 12, 31, 0, 1318), (346, 12, 32, 0, 1319), (349, 12, 33, 0, 1320), (356, 12, 34, 0, 1321), (87, 12, 35, 0, 1322), (90, 12, 36, 0, 1323), (93, 12, 37, 0, 1324), (96, 12, 38, 0, 1325), (99, 12, 39, 0, 1326), (398, 12, 40, 0, 1327), (210, 12, 41, 0, 1328), (102, 12, 42, 0, 1329), (105, 12, 43, 0, 1330), (108, 12, 44, 0, 1331), (111, 12, 45, 0, 1332), (114, 12, 46, 0, 1333), (117, 12, 47, 0, 1334), (120, 12, 48, 0, 1335), (123, 12, 49, 0, 1336), (126, 12, 50, 0, 1337), (472, 12, 51, 0, 1338), (129, 12, 52, 0, 1339), (132, 12, 53, 0, 1340), (135, 12, 54, 0, 1341)],
  [],
  [],
  [],
  [],
  [],
  [],
  [],
  [],
  [],
  [],
  [],
  [],
  [],
  []]
/-- links of methods: index, kind (0 static, 1 virtual, 2 constructor; 10 more: a nest mate's), the method, the places of its words -/
def xML : List (List (Nat × Nat × mT × Nat × Nat × Nat × Nat)) := [
  [(22, 2, M_X_init, 126, 127, 97, 0), (26, 1, M_X_sign, 500, 501, 97, 502), (31, 1, M_X_end, 512, 513, 97, 514), (36, 1, M_X_lake, 520, 521, 97, 522), (41, 1, M_X_fish, 558, 559, 97, 560), (45, 1, M_X_oar, 583, 584, 97, 585), (49, 1, M_X_fog, 638, 639, 97, 640), (53, 1, M_X_rule, 656, 657, 97, 658), (69, 1, M_X_sheet, 781, 782, 97, 783), (74, 1, M_X_hours, 791, 792, 97, 793), (78, 1, M_X_promise, 904, 905, 97, 906), (83, 1, M_X_takesBack, 908, 909, 97, 910), (87, 1, M_X_letsGo, 917, 918, 97, 919), (91, 1, M_X_buys, 925, 926, 97, 927), (95, 1, M_X_day, 933, 934, 97, 935), (99, 1, M_X_undo, 948, 949, 97, 950), (103, 1, M_X_towed, 956, 957, 97, 958), (107, 1, M_X_ahead, 963, 964, 97, 965), (111, 1, M_X_comes, 967, 968, 97, 969), (115, 1, M_X_sticks, 980, 981, 97, 982), (119, 1, M_X_track, 984, 985, 97, 986), (123, 1, M_X_sends, 995, 996, 97, 997), (127, 1, M_X_cheapest, 1017, 1018, 97, 1019), (131, 1, M_X_matters, 1025, 1026, 97, 1027), (135, 1, M_X_keeps, 1030, 1031, 97, 1032), (139, 1, M_X_owed, 1038, 1039, 97, 1040), (143, 1, M_X_fates, 1042, 1043, 97, 1044), (147, 1, M_X_minds, 1046, 1047, 97, 1048), (151, 1, M_X_evens, 1054, 1055, 97, 1056), (155, 1, M_X_strongest, 1067, 1068, 97, 1069), (159, 1, M_X_sways, 1071, 1072, 97, 1073), (163, 1, M_X_seen, 1079, 1080, 97, 1081), (167, 1, M_X_forget, 1087, 1088, 97, 1089), (171, 1, M_X_fits, 1091, 1092, 97, 1093), (175, 1, M_X_looks, 1107, 1108, 97, 1109), (179, 1, M_X_way, 1115, 1116, 97, 1117), (183, 1, M_X_farthest, 1125, 1126, 97, 1127), (187, 1, M_X_drifts, 1129, 1130, 97, 1131), (191, 1, M_X_game, 1139, 1140, 97, 1141), (195, 1, M_X_law, 1147, 1148, 97, 1149), (199, 1, M_X_rests, 1151, 1152, 97, 1153), (203, 1, M_X_years, 1161, 1162, 97, 1163), (207, 1, M_X_keep, 1176, 1177, 97, 1178), (211, 1, M_X_again, 1180, 1181, 97, 1182), (215, 1, M_X_count, 1184, 1185, 97, 1186), (7, 1, M_X_one, 1193, 1194, 97, 1195), (15, 1, M_X_field, 1266, 1267, 97, 1268), (18, 1, M_X_row, 1273, 1274, 97, 1275), (63, 1, M_Y_thrown, 1277, 1278, 111, 1279), (25, 2, M_Y_init, 1283, 1284, 111, 0), (30, 1, M_Y_sign, 1453, 1454, 111, 1455), (35, 1, M_Y_end, 1457, 1458, 111, 1459), (40, 1, M_Y_lake, 1464, 1465, 111, 1466), (44, 1, M_Y_fish, 1507, 1508, 111, 1509), (48, 1, M_Y_oar, 1527, 1528, 111, 1529), (52, 1, M_Y_fog, 1557, 1558, 111, 1559), (56, 1, M_Y_rule, 1561, 1562, 111, 1563), (62, 1, M_Y_one, 1589, 1590, 111, 1591), (68, 1, M_Y_field, 1650, 1651, 111, 1652), (73, 1, M_Y_sheet, 1659, 1660, 111, 1661), (102, 1, M_Y_undo, 1664, 1665, 111, 1666), (77, 1, M_Y_hours, 1668, 1669, 111, 1670), (82, 1, M_Y_promise, 1709, 1710, 111, 1711), (86, 1, M_Y_takesBack, 1727, 1728, 111, 1729), (90, 1, M_Y_letsGo, 1735, 1736, 111, 1737), (94, 1, M_Y_buys, 1743, 1744, 111, 1745), (98, 1, M_Y_day, 1752, 1753, 111, 1754), (106, 1, M_Y_towed, 1765, 1766, 111, 1767), (110, 1, M_Y_ahead, 1769, 1770, 111, 1771), (114, 1, M_Y_comes, 1777, 1778, 111, 1779), (118, 1, M_Y_sticks, 1785, 1786, 111, 1787), (122, 1, M_Y_track, 1789, 1790, 111, 1791), (126, 1, M_Y_sends, 1795, 1796, 111, 1797), (130, 1, M_Y_cheapest, 1811, 1812, 111, 1813), (134, 1, M_Y_matters, 1816, 1817, 111, 1818), (138, 1, M_Y_keeps, 1820, 1821, 111, 1822), (142, 1, M_Y_owed, 1828, 1829, 111, 1830), (146, 1, M_Y_fates, 1832, 1833, 111, 1834), (150, 1, M_Y_minds, 1836, 1837, 111, 1838), (154, 1, M_Y_evens, 1840, 1841, 111, 1842), (158, 1, M_Y_strongest, 1852, 1853, 111, 1854), (162, 1, M_Y_sways, 1856, 1857, 111, 1858), (166, 1, M_Y_seen, 1860, 1861, 111, 1862), (170, 1, M_Y_forget, 1864, 1865, 111, 1866), (174, 1, M_Y_fits, 1868, 1869, 111, 1870), (178, 1, M_Y_looks, 1883, 1884, 111, 1885), (182, 1, M_Y_way, 1887, 1888, 111, 1889), (186, 1, M_Y_farthest, 1895, 1896, 111, 1897), (190, 1, M_Y_drifts, 1899, 1900, 111, 1901), (194, 1, M_Y_game, 1912, 1913, 111, 1914), (198, 1, M_Y_law, 1916, 1917, 111, 1918), (202, 1, M_Y_rests, 1920, 1921, 111, 1922), (206, 1, M_Y_years, 1930, 1931, 111, 1932), (210, 1, M_Y_keep, 1939, 1940, 111, 1941), (214, 1, M_Y_again, 1943, 1944, 111, 1945), (218, 1, M_Y_count, 1947, 1948, 111, 1949), (222, 1, M_Y_row, 1951, 1952, 111, 1953)],
  [(19, 1, M_Text_length, 646, 509, 98, 510), (25, 1, M_Text_digit, 647, 529, 98, 530), (38, 0, M_Math_floorMod, 812, 813, 112, 0)],
  [(29, 1, M_Text_digit, 528, 529, 98, 530), (35, 1, M_Text_at, 536, 533, 98, 534), (38, 1, M_Text_length, 537, 509, 98, 510), (42, 1, M_Lake_fields, 627, 555, 100, 556), (49, 1, M_Lake_rowOf, 869, 821, 100, 822), (52, 1, M_Lake_columnOf, 870, 825, 100, 826), (55, 1, M_Lake_fieldAt, 871, 616, 100, 617), (45, 1, M_Lake_has, 876, 624, 100, 625), (64, 0, M_Arrays_fill, 1011, 411, 110, 0), (70, 1, M_Lake_beside, 1012, 866, 100, 867), (73, 1, M_Lake_stepsTo, 1124, 1014, 100, 1015)],
  [(22, 12, M_State_init, 361, 294, 105, 0), (23, 1, M_State_copy, 603, 604, 105, 605)],
  [(48, 1, M_Rule_plain, 401, 403, 108, 0), (60, 0, M_Arrays_fill, 410, 411, 110, 0), (66, 1, M_Text_length, 664, 509, 98, 510), (78, 1, M_Text_at, 666, 533, 98, 534), (82, 1, M_Rule_takeThing, 667, 669, 108, 7), (93, 1, M_Rule_await, 671, 673, 108, 8), (98, 1, M_String_indexOf, 676, 677, 113, 678), (103, 1, M_Rule_emit, 758, 760, 108, 9), (86, 1, M_Rule_takeBehind, 762, 764, 108, 10), (106, 1, M_Rule_takeDigit, 766, 768, 108, 11), (109, 1, M_Rule_closeOne, 770, 772, 108, 12), (89, 1, M_Rule_settle, 774, 776, 108, 13), (113, 0, M_Rule_bindingOf, 778, 779, 108, 0), (117, 1, M_Rule_reckon, 836, 838, 108, 15), (129, 0, M_Rule_joined, 844, 845, 108, 0)],
  [],
  [],
  [],
  [(19, 1, M_Text_at, 532, 533, 98, 534)],
  [],
  [(39, 1, M_Tug_measure, 804, 805, 103, 806), (45, 1, M_Tug_weigh, 852, 853, 103, 854), (54, 1, M_Tug_goesFrom, 861, 862, 103, 863), (58, 1, M_Trip_move, 877, 879, 104, 18), (80, 1, M_Lake_beside, 881, 866, 100, 867), (67, 1, M_Trip_tire, 882, 884, 104, 19), (74, 1, M_Trip_reward, 888, 890, 104, 20)],
  [(42, 1, M_Fog_in, 808, 809, 102, 810), (48, 0, M_Math_floorMod, 815, 813, 112, 0), (65, 1, M_State_holds, 816, 817, 105, 818), (69, 1, M_Lake_rowOf, 820, 821, 100, 822), (74, 1, M_Lake_columnOf, 824, 825, 100, 826), (95, 1, M_Rule_pullBy, 831, 832, 108, 833), (100, 1, M_Tug_head, 848, 850, 103, 16), (107, 0, M_Arrays_fill, 856, 411, 110, 0), (113, 1, M_Tug_addTo, 857, 859, 103, 17), (117, 1, M_Lake_beside, 865, 866, 100, 867), (120, 1, M_Lake_isRock, 872, 873, 100, 874), (104, 1, M_School_has, 1262, 596, 101, 597)],
  [(9, 12, M_Text_init, 134, 135, 98, 0), (18, 12, M_Told_init, 148, 149, 99, 0), (25, 12, M_Lake_init, 164, 165, 100, 0), (32, 12, M_School_init, 190, 191, 101, 0), (39, 12, M_Fog_init, 213, 214, 102, 0), (46, 2, M_Tug_init, 226, 227, 103, 0), (55, 2, M_Trip_init, 257, 258, 104, 0), (64, 12, M_State_init, 293, 294, 105, 0), (77, 2, M_Past_init, 355, 356, 106, 0), (84, 12, M_Sights_init, 375, 376, 107, 0), (104, 2, M_Rule_init, 397, 398, 108, 0), (112, 1, M_Text_append, 504, 505, 98, 506), (116, 1, M_Text_length, 508, 509, 98, 510), (120, 1, M_Text_shorten, 516, 517, 98, 518), (123, 1, M_Lake_faultIn, 524, 525, 100, 526), (127, 1, M_Lake_take, 538, 539, 100, 540), (143, 1, M_Past_clear, 542, 543, 106, 544), (146, 1, M_Sights_clear, 546, 547, 107, 548), (147, 1, M_Text_clear, 550, 551, 98, 552), (148, 1, M_Lake_fields, 554, 555, 100, 556), (151, 1, M_X_fishFault, 562, 564, 97, 1), (264, 1, M_Text_at, 566, 533, 98, 534), (423, 0, M_X_kindOf, 567, 568, 97, 0), (426, 1, M_Text_digit, 570, 529, 98, 530), (154, 1, M_X_addFish, 571, 573, 97, 2), (429, 1, M_State_welcome, 575, 576, 105, 577), (432, 1, M_School_add, 579, 580, 101, 581), (157, 1, M_X_oarFault, 587, 589, 97, 3), (435, 1, M_X_canBePromised, 591, 593, 97, 4), (172, 1, M_School_has, 595, 596, 101, 597), (160, 1, M_Past_push, 599, 600, 106, 601), (164, 1, M_X_addPromises, 611, 613, 97, 5), (438, 1, M_Lake_fieldAt, 615, 616, 100, 617), (244, 1, M_X_makePromise, 619, 621, 97, 6), (211, 1, M_Lake_has, 623, 624, 100, 625), (329, 1, M_State_promised, 628, 629, 105, 630), (318, 0, M_Integer_bitCount, 632, 633, 117, 0), (167, 1, M_Fog_faultIn, 642, 643, 102, 644), (168, 1, M_Fog_take, 648, 649, 102, 650), (169, 1, M_Rule_read, 660, 661, 108, 662), (215, 1, M_School_strengthen, 785, 786, 101, 787), (219, 1, M_State_copy, 795, 604, 105, 605), (222, 1, M_X_passHours, 796, 798, 97, 14), (291, 1, M_Trip_pass, 800, 801, 104, 802), (225, 1, M_X_noted, 892, 894, 97, 21), (228, 1, M_Told_start, 896, 897, 99, 898), (234, 1, M_Told_add, 900, 901, 99, 902), (248, 1, M_X_dropPromise, 912, 914, 97, 22), (251, 1, M_X_turnHold, 921, 923, 97, 23), (255, 1, M_X_addCrumbs, 929, 931, 97, 24), (258, 1, M_X_dayFault, 937, 939, 97, 25), (267, 0, M_X_digitsBehind, 941, 942, 97, 0), (261, 1, M_X_doAct, 944, 946, 97, 26), (276, 1, M_Past_pop, 952, 953, 106, 954), (200, 1, M_Tug_measure, 960, 805, 103, 806), (281, 1, M_Tug_weigh, 961, 853, 103, 854), (288, 1, M_Tug_goesFrom, 962, 862, 103, 863), (300, 1, M_X_arrivesBy, 971, 973, 97, 27), (326, 1, M_Lake_gap, 975, 976, 100, 977), (305, 0, M_Long_bitCount, 989, 990, 123, 0), (311, 1, M_X_canBeAskedFor, 999, 1001, 97, 28), (315, 1, M_X_fewestBy, 1003, 1005, 97, 29), (373, 1, M_Lake_measureFrom, 1007, 1008, 100, 1009), (376, 1, M_Lake_stepsTo, 1013, 1014, 100, 1015), (322, 1, M_Rule_asksForCrumbs, 1021, 1022, 108, 1023), (191, 1, M_State_holds, 1029, 817, 105, 818), (332, 1, M_State_crumbsOf, 1034, 1035, 105, 1036), (341, 1, M_Lake_isDiagonal, 1050, 1051, 100, 1052), (344, 1, M_Tug_pullers, 1058, 1059, 103, 1060), (347, 1, M_Tug_pullOf, 1062, 1063, 103, 1064), (353, 1, M_X_goesWith, 1075, 1077, 97, 30), (356, 1, M_Sights_add, 1083, 1084, 107, 1085), (360, 1, M_X_fitting, 1095, 1097, 97, 31), (363, 1, M_X_follow, 1099, 1101, 97, 32), (366, 1, M_Sights_agreeWith, 1103, 1104, 107, 1105), (370, 1, M_X_mostTogether, 1111, 1113, 97, 33), (212, 1, M_Lake_isRock, 1119, 873, 100, 874), (379, 1, M_Lake_nextBy, 1120, 1121, 100, 1122), (382, 0, M_X_power, 1133, 1134, 97, 0), (386, 0, M_X_sharedDivisor, 1136, 1137, 97, 0), (390, 0, M_X_leaves, 1143, 1144, 97, 0), (396, 0, M_X_isContent, 1155, 1156, 97, 0), (441, 0, M_X_gain, 1158, 1159, 97, 0), (400, 0, M_X_nextDraw, 1165, 1166, 97, 0), (403, 0, M_X_drawn, 1169, 1170, 97, 0), (406, 1, M_X_drawAct, 1172, 1174, 97, 34), (415, 1, M_Fog_in, 1188, 809, 102, 810), (177, 2, M_NoSuchElementException_init, 1236, 1237, 122, 0), (207, 1, M_Tug_headingOf, 1258, 1259, 103, 1260)],
  [(142, 0, M_Y_in, 1461, 1462, 111, 0), (192, 1, M_Y_begins, 1468, 1470, 111, 36), (195, 1, M_Y_digitIn, 1473, 1475, 111, 37), (200, 1, M_Y_takesOf, 1478, 1480, 111, 38), (179, 1, M_String_length, 1482, 691, 113, 692), (184, 1, M_String_charAt, 1483, 1484, 113, 1485), (138, 1, M_Y_fields, 1503, 1505, 111, 39), (218, 1, M_Y_readsFish, 1511, 1513, 111, 40), (221, 1, M_Y_takes, 1516, 1518, 111, 41), (171, 0, M_Y_flag, 1520, 1521, 111, 0), (225, 1, M_Y_faultOf, 1523, 1525, 111, 42), (236, 1, M_Y_readsPromise, 1531, 1533, 111, 43), (229, 1, M_Y_canBePromised, 1535, 1537, 111, 44), (233, 1, M_Y_number, 1539, 1541, 111, 45), (188, 1, M_Y_isDigit, 1543, 1545, 111, 46), (239, 1, M_Y_putsBy, 1549, 1551, 111, 47), (242, 1, M_Y_adds, 1553, 1555, 111, 48), (269, 1, M_Y_readsRule, 1565, 1567, 111, 49), (257, 1, M_Y_readsRank, 1569, 1571, 111, 50), (248, 1, M_Y_readsThing, 1573, 1575, 111, 51), (251, 1, M_Y_codes, 1577, 1579, 111, 52), (272, 1, M_Y_laysCode, 1585, 1587, 111, 53), (331, 1, M_Y_isFish, 1593, 1595, 111, 54), (336, 1, M_Y_refuse, 1598, 1600, 111, 55), (280, 0, M_Y_has, 1602, 1603, 111, 0), (312, 1, M_Y_pull, 1605, 1607, 111, 56), (284, 1, M_Y_fogOn, 1609, 1611, 111, 57), (287, 1, M_Y_far, 1613, 1615, 111, 58), (290, 1, M_Y_ruled, 1618, 1620, 111, 59), (276, 0, M_Y_worked, 1622, 1623, 111, 0), (315, 1, M_Y_wayOf, 1626, 1628, 111, 60), (303, 1, M_Y_isOfTwoMinds, 1630, 1632, 111, 61), (296, 1, M_Y_rowsBetween, 1634, 1636, 111, 62), (300, 1, M_Y_columnsBetween, 1638, 1640, 111, 63), (306, 1, M_Y_upOrDown, 1642, 1644, 111, 64), (309, 1, M_Y_rightOrLeft, 1646, 1648, 111, 65), (339, 1, M_Y_isField, 1654, 1656, 111, 66), (379, 1, M_Y_goesOn, 1673, 1675, 111, 67), (362, 1, M_Y_hourGoes, 1677, 1679, 111, 68), (352, 1, M_Y_goes, 1681, 1683, 111, 69), (324, 1, M_Y_laysPulls, 1685, 1687, 111, 70), (328, 1, M_Y_goesBy, 1689, 1691, 111, 71), (318, 1, M_Y_net, 1693, 1695, 111, 72), (321, 1, M_Y_beside, 1697, 1699, 111, 73), (359, 1, M_Y_comesTrue, 1701, 1703, 111, 74), (18, 1, M_Y_enters, 1705, 1707, 111, 75), (382, 1, M_Y_promises, 1713, 1715, 111, 76), (367, 1, M_Y_promised, 1718, 1720, 111, 77), (370, 0, M_Integer_bitCount, 1722, 633, 117, 0), (386, 1, M_Y_counted, 1723, 1725, 111, 78), (389, 1, M_Y_takesOne, 1731, 1733, 111, 79), (392, 1, M_Y_letsOne, 1739, 1741, 111, 80), (395, 1, M_Y_buysSome, 1747, 1749, 111, 81), (403, 1, M_Y_readsAct, 1756, 1758, 111, 82), (406, 1, M_Y_does, 1761, 1763, 111, 83), (409, 1, M_Y_copies, 1773, 1775, 111, 84), (412, 1, M_Y_comesIn, 1781, 1783, 111, 85), (417, 0, M_Long_bitCount, 1794, 990, 123, 0), (424, 1, M_Y_able, 1800, 1802, 111, 86), (427, 0, M_Y_isFewer, 1804, 1805, 111, 0), (431, 1, M_Y_sentIn, 1807, 1809, 111, 87), (436, 1, M_Y_crumbsOf, 1824, 1826, 111, 88), (439, 1, M_Y_pulling, 1844, 1846, 111, 89), (442, 1, M_Y_pullOf, 1848, 1850, 111, 90), (451, 1, M_Y_fitting, 1872, 1874, 111, 91), (448, 1, M_Y_isAsSeen, 1876, 1878, 111, 92), (445, 0, M_Y_place, 1880, 1881, 111, 0), (454, 1, M_Y_laysSteps, 1891, 1893, 111, 93), (461, 1, M_Y_tellsFraction, 1905, 1907, 111, 94), (7, 0, M_Y_common, 1909, 1910, 111, 0), (468, 0, M_Y_isRest, 1924, 1925, 111, 0), (465, 0, M_Y_gets, 1927, 1928, 111, 0), (476, 1, M_Y_draws, 1934, 1936, 111, 95)],
  [],
  [],
  [],
  [],
  [(633, 1, M_String_indexOf_2, 680, 681, 113, 682), (492, 1, M_String_isLatin1, 684, 685, 113, 686), (505, 1, M_String_length, 690, 691, 113, 692), (335, 1, M_String_coder, 694, 695, 113, 696), (637, 0, M_StringLatin1_indexOf, 698, 699, 114, 0), (640, 0, M_StringUTF16_indexOf, 709, 710, 116, 0), (1062, 0, M_Preconditions_checkFromToIndex, 729, 730, 115, 0), (495, 0, M_StringLatin1_charAt, 1487, 1488, 114, 0), (1059, 0, M_Preconditions_checkIndex, 1493, 1494, 115, 0), (498, 0, M_StringUTF16_charAt, 1496, 1497, 116, 0)],
  [(88, 0, M_StringLatin1_canEncode, 701, 702, 114, 0), (95, 0, M_StringLatin1_indexOfChar, 706, 707, 114, 0), (9, 0, M_String_checkIndex, 1490, 1491, 113, 0)],
  [(228, 0, M_StringUTF16_indexOfChar, 715, 716, 116, 0), (96, 0, M_StringUTF16_checkBoundsBeginEnd, 718, 719, 116, 0), (48, 0, M_StringUTF16_length, 721, 722, 116, 0), (241, 0, M_String_checkBoundsBeginEnd, 724, 725, 113, 0), (244, 0, M_StringUTF16_indexOfCharUnsafe, 732, 733, 116, 0), (71, 0, M_StringUTF16_getChar, 735, 736, 116, 0), (232, 0, M_StringUTF16_indexOfSupplementary, 744, 745, 116, 0), (164, 0, M_Character_isValidCodePoint, 747, 748, 118, 0), (157, 0, M_Character_highSurrogate, 750, 751, 118, 0), (161, 0, M_Character_lowSurrogate, 754, 755, 118, 0), (67, 0, M_StringUTF16_checkIndex, 1499, 1500, 116, 0), (414, 0, M_String_checkIndex, 1502, 1491, 113, 0)],
  [],
  [],
  [],
  [],
  [(1, 2, M_RuntimeException_init, 1239, 1240, 121, 0)],
  [(1, 2, M_Exception_init, 1242, 1243, 120, 0)],
  [(1, 2, M_Throwable_init, 1245, 1220, 119, 0)]]
def xKI : List (List (Nat × Int32 × Nat)) := [
  [],
  [],
  [],
  [],
  [(116, -1640531535, 835)],
  [],
  [],
  [],
  [],
  [],
  [],
  [],
  [(445, 1103515245, 1168)],
  [(435, 1000000, 1815), (475, 1103515245, 1938)],
  [],
  [],
  [],
  [(265, 1431655765, 635), (266, 858993459, 636), (267, 252645135, 637)],
  [],
  [],
  [(227, 65536, 714)],
  [],
  [(110, 55232, 753), (76, 56320, 757)],
  [],
  [],
  [],
  [],
  []]
def xKL : List (List (Nat × Int64 × Nat)) := [
  [],
  [],
  [],
  [],
  [],
  [],
  [],
  [],
  [],
  [],
  [],
  [],
  [(303, -1, 988), (394, 2, 1146)],
  [(175, 48, 1547), (177, 57, 1548), (334, 8, 1597), (342, 2, 1658), (344, 3, 1663), (377, 60, 1672), (365, 9, 1717), (375, 99, 1751), (415, -1, 1793), (422, 20, 1799), (457, 4, 1903), (459, 10, 1904)],
  [],
  [],
  [],
  [],
  [],
  [],
  [],
  [],
  [],
  [(314, 6148914691236517205, 992), (316, 3689348814741910323, 993), (318, 1085102592571150095, 994)],
  [],
  [],
  [],
  []]
/-- links of classes that are made: index, class, the places of its words (link, initialized, instantiable) -/
def xCL : List (List (Nat × Nat × Nat × Nat × Nat)) := [
  [(8, 11, 124, 97, 125), (23, 12, 1281, 111, 1282)],
  [],
  [],
  [(9, 6, 359, 105, 292)],
  [],
  [],
  [],
  [],
  [],
  [],
  [],
  [],
  [(7, 7, 132, 98, 133), (16, 8, 146, 99, 147), (23, 1, 162, 100, 163), (30, 4, 188, 101, 189), (37, 0, 211, 102, 212), (44, 10, 224, 103, 225), (53, 9, 255, 104, 256), (62, 6, 291, 105, 292), (75, 2, 353, 106, 354), (82, 5, 373, 107, 374), (102, 3, 395, 108, 396)],
  [],
  [],
  [],
  [],
  [],
  [],
  [],
  [],
  [],
  [],
  [],
  [],
  [],
  [],
  []]
/-- links of methods that are done at once: index, which (0 Object(), 1 arraycopy, 2 max, 3 min, 4 abs), the place of the word -/
def xPL : List (List (Nat × Nat × Nat)) := [
  [],
  [(3, 0, 216), (29, 3, 652), (35, 2, 653)],
  [(3, 0, 167), (59, 4, 979)],
  [(1, 0, 358), (27, 3, 608)],
  [(3, 0, 400), (54, 1, 407), (72, 3, 665), (120, 2, 847)],
  [(3, 0, 193), (22, 3, 789), (28, 2, 790)],
  [(1, 0, 378)],
  [(3, 0, 296), (43, 1, 607)],
  [(3, 0, 137)],
  [(3, 0, 151)],
  [(3, 0, 260), (92, 3, 886), (97, 2, 887)],
  [(3, 0, 229), (77, 4, 828)],
  [(1, 0, 129), (270, 2, 916), (350, 4, 1066)],
  [(22, 0, 1286), (164, 3, 1472), (149, 4, 1617), (293, 2, 1625)],
  [],
  [],
  [],
  [],
  [],
  [(92, 2, 704), (38, 3, 705)],
  [(224, 2, 712), (183, 3, 713)],
  [],
  [],
  [],
  [(1, 0, 1222)],
  [],
  [],
  []]
