/-! What the lists name, checked against the tables of the claim. -/
def xcl (ci : Nat) : String × u_T × Nat := match ci with
  | 0 => ("java/util/ArrayList", (fun k => match k with
    | 0 => ("java/util/AbstractList", "modCount", "I", false)
    | 1 => ("java/util/ArrayList", "elementData", "[Ljava/lang/Object;", false)
    | _ => ("java/util/ArrayList", "size", "I", false)), 3)
  | 1 => ("SlowTunes$Grid", (fun k => match k with
    | _ => ("SlowTunes$Grid", "cells", "[I", true)), 1)
  | 2 => ("SlowTunes$Hash", (fun k => match k with
    | _ => ("SlowTunes$Hash", "value", "J", false)), 1)
  | 3 => ("SlowTunes$Matches", (fun k => match k with
    | 0 => ("SlowTunes$Matches", "fromBegin", "LSlowTunes$Grid;", true)
    | 1 => ("SlowTunes$Matches", "fromEnd", "LSlowTunes$Grid;", true)
    | 2 => ("SlowTunes$Matches", "firstSteps", "LSlowTunes$Grid;", true)
    | 3 => ("SlowTunes$Matches", "counts", "LSlowTunes$Grid;", true)
    | 4 => ("SlowTunes$Matches", "zeroNotes", "[I", true)
    | 5 => ("SlowTunes$Matches", "oneNotes", "[I", true)
    | 6 => ("SlowTunes$Matches", "zeroStretches", "[I", true)
    | 7 => ("SlowTunes$Matches", "oneStretches", "[I", true)
    | 8 => ("SlowTunes$Matches", "length", "I", false)
    | 9 => ("SlowTunes$Matches", "held", "I", false)
    | _ => ("SlowTunes$Matches", "number", "I", false)), 11)
  | 4 => ("SlowTunes$Parts", (fun k => match k with
    | 0 => ("SlowTunes$Parts", "costs", "LSlowTunes$Grid;", true)
    | 1 => ("SlowTunes$Parts", "begins", "LSlowTunes$Grid;", true)
    | 2 => ("SlowTunes$Parts", "least", "I", false)
    | 3 => ("SlowTunes$Parts", "first", "I", false)
    | 4 => ("SlowTunes$Parts", "last", "I", false)
    | 5 => ("SlowTunes$Parts", "leastBefore", "I", false)
    | _ => ("SlowTunes$Parts", "latestBegin", "I", false)), 7)
  | 5 => ("SlowTunes$Reader", (fun k => match k with
    | 0 => ("SlowTunes$Reader", "numbers", "[I", true)
    | 1 => ("SlowTunes$Reader", "numbersLength", "I", false)
    | 2 => ("SlowTunes$Reader", "place", "I", false)
    | 3 => ("SlowTunes$Reader", "word", "LSlowTunes$Word;", false)
    | 4 => ("SlowTunes$Reader", "lettersRead", "I", false)
    | _ => ("SlowTunes$Reader", "tune", "I", false)), 6)
  | 6 => ("SlowTunes$State", (fun k => match k with
    | 0 => ("SlowTunes$State", "zero", "LSlowTunes$Tune;", false)
    | 1 => ("SlowTunes$State", "one", "LSlowTunes$Tune;", false)
    | 2 => ("SlowTunes$State", "farthest", "I", false)
    | 3 => ("SlowTunes$State", "price", "I", false)
    | 4 => ("SlowTunes$State", "teller", "I", false)
    | 5 => ("SlowTunes$State", "stopReason", "I", false)
    | _ => ("SlowTunes$State", "stopPart", "I", false)), 7)
  | 7 => ("SlowTunes$Tune", (fun k => match k with
    | 0 => ("SlowTunes$Tune", "pitches", "[I", true)
    | _ => ("SlowTunes$Tune", "length", "I", false)), 2)
  | 8 => ("SlowTunes", (fun k => match k with
    | 0 => ("SlowTunes", "now", "LSlowTunes$State;", true)
    | 1 => ("SlowTunes", "saved", "Ljava/util/ArrayList;", true)
    | 2 => ("SlowTunes", "kept", "LSlowTunes$State;", true)
    | 3 => ("SlowTunes", "isKept", "Z", false)
    | 4 => ("SlowTunes", "codes", "[I", true)
    | 5 => ("SlowTunes", "codesLength", "I", false)
    | 6 => ("SlowTunes", "reader", "LSlowTunes$Reader;", true)
    | 7 => ("SlowTunes", "matches", "LSlowTunes$Matches;", true)
    | 8 => ("SlowTunes", "matchesAreOld", "Z", false)
    | 9 => ("SlowTunes", "trial", "LSlowTunes$Grid;", true)
    | _ => ("SlowTunes", "parts", "LSlowTunes$Parts;", true)), 11)
  | 9 => ("SlowTunesModel", (fun k => match k with
    | 0 => ("SlowTunesModel", "thrown", "I", false)
    | 1 => ("SlowTunesModel", "s", "[I", true)
    | 2 => ("SlowTunesModel", "states", "[I", true)
    | 3 => ("SlowTunesModel", "stateMany", "I", false)
    | 4 => ("SlowTunesModel", "snapshot", "[I", true)
    | 5 => ("SlowTunesModel", "hasSnapshot", "Z", false)
    | 6 => ("SlowTunesModel", "text", "[I", true)
    | 7 => ("SlowTunesModel", "length", "I", false)
    | 8 => ("SlowTunesModel", "at", "I", false)
    | 9 => ("SlowTunesModel", "isWell", "Z", false)
    | 10 => ("SlowTunesModel", "read", "[I", true)
    | 11 => ("SlowTunesModel", "readMany", "I", false)
    | 12 => ("SlowTunesModel", "pitches", "[I", true)
    | 13 => ("SlowTunesModel", "pitchMany", "I", false)
    | 14 => ("SlowTunesModel", "ahead", "[I", true)
    | 15 => ("SlowTunesModel", "behind", "[I", true)
    | 16 => ("SlowTunesModel", "ways", "[I", true)
    | 17 => ("SlowTunesModel", "begun", "[I", true)
    | 18 => ("SlowTunesModel", "pairOne", "[I", true)
    | 19 => ("SlowTunesModel", "pairTwo", "[I", true)
    | 20 => ("SlowTunesModel", "pairMany", "I", false)
    | _ => ("SlowTunesModel", "partEnds", "I", false)), 22)
  | 10 => ("SlowTunes$Word", (fun k => match k with
    | 0 => ("SlowTunes$Word", "letters", "Ljava/lang/String;", true)
    | 1 => ("SlowTunes$Word", "hasTune", "Z", true)
    | 2 => ("SlowTunes$Word", "hasNumber", "Z", true)
    | 3 => ("SlowTunes$Word", "leastNumber", "I", true)
    | _ => ("SlowTunes$Word", "mostNumber", "I", true)), 5)
  | 11 => ("java/lang/String", (fun k => match k with
    | 0 => ("java/lang/String", "value", "[B", true)
    | _ => ("java/lang/String", "coder", "B", true)), 2)
  | _ => ("", (fun _ => ("", "", "", true)), 0)
/-- where the words of a class's fields stand -/
def xlay (ci k : Nat) : Nat × Nat := match ci with
  | 0 => ([(0, 129), (0, 125), (0, 127)] : List (Nat × Nat)).getD k (99, 99)
  | 1 => ([(0, 174)] : List (Nat × Nat)).getD k (99, 99)
  | 2 => ([(2, 203)] : List (Nat × Nat)).getD k (99, 99)
  | 3 => ([(0, 191), (0, 193), (0, 195), (0, 197), (0, 199), (0, 201), (0, 203), (0, 205), (0, 207), (0, 209), (0, 211)] : List (Nat × Nat)).getD k (99, 99)
  | 4 => ([(0, 235), (0, 237), (0, 239), (1, 1), (1, 3), (1, 5), (1, 7)] : List (Nat × Nat)).getD k (99, 99)
  | 5 => ([(0, 148), (0, 150), (0, 152), (0, 154), (0, 156), (0, 158)] : List (Nat × Nat)).getD k (99, 99)
  | 6 => ([(0, 91), (0, 93), (0, 95), (0, 97), (0, 99), (0, 101), (0, 103)] : List (Nat × Nat)).getD k (99, 99)
  | 7 => ([(0, 60), (0, 62)] : List (Nat × Nat)).getD k (99, 99)
  | 8 => ([(1, 21), (1, 23), (1, 25), (1, 27), (1, 29), (1, 31), (1, 33), (1, 35), (1, 37), (1, 39), (1, 41)] : List (Nat × Nat)).getD k (99, 99)
  | 9 => ([(5, 56), (5, 58), (5, 60), (5, 62), (5, 64), (5, 66), (5, 68), (5, 70), (5, 72), (5, 74), (5, 76), (5, 78), (5, 80), (5, 82), (5, 84), (5, 86), (5, 88), (5, 90), (5, 92), (5, 94), (5, 96), (5, 98)] : List (Nat × Nat)).getD k (99, 99)
  | _ => (99, 99)
def xins (ci : Nat) : Nat × Nat := match ci with
  | 0 => (0, 107)
  | 1 => (0, 168)
  | 2 => (2, 195)
  | 3 => (0, 162)
  | 4 => (0, 217)
  | 5 => (0, 133)
  | 6 => (0, 41)
  | 7 => (0, 47)
  | 8 => (0, 33)
  | 9 => (5, 29)
  | _ => (99, 99)
def xtb (q : Nat) : List Jvm.Cond := match q with
  | 0 => tables_1_1
  | 1 => tables_1_2
  | 2 => tables_1_3
  | 3 => tables_1_4
  | 4 => tables_1_5
  | 5 => tables_1_6
  | 6 => tables_1_7
  | 7 => tables_1_8
  | _ => []
def xw (q p : Nat) : Option Jvm.Cond := (xtb q)[p]?
theorem xtb_in {q p : Nat} {w : Jvm.Cond} (h : xw q p = some w) : w ∈ tables_1 := by
  have hm : w ∈ xtb q := List.mem_of_getElem? h
  unfold tables_1
  unfold xtb at hm
  split at hm <;> first | (exact absurd hm List.not_mem_nil) | simp only [List.mem_append, hm, true_or, or_true]
/-- the static fields that are read: what they hold -/
def xstL : List (String × String × String × Value) := [("SlowTunes$Word", "SING", "LSlowTunes$Word;", .ref 0), ("SlowTunes$Word", "RAISE", "LSlowTunes$Word;", .ref 1), ("SlowTunes$Word", "LOWER", "LSlowTunes$Word;", .ref 2), ("SlowTunes$Word", "SLOW", "LSlowTunes$Word;", .ref 3), ("SlowTunes$Word", "FLIP", "LSlowTunes$Word;", .ref 4), ("SlowTunes$Word", "BOUND", "LSlowTunes$Word;", .ref 5), ("SlowTunes$Word", "HOLD", "LSlowTunes$Word;", .ref 6), ("SlowTunes$Word", "JUDGE", "LSlowTunes$Word;", .ref 7), ("SlowTunes", "WORDS", "[LSlowTunes$Word;", .ref 24), ("java/util/ArrayList", "DEFAULTCAPACITY_EMPTY_ELEMENTDATA", "[Ljava/lang/Object;", .ref 26), ("jdk/internal/util/Preconditions", "SIOOBE_FORMATTER", "Ljava/util/function/BiFunction;", .ref 27), ("java/lang/String", "COMPACT_STRINGS", "Z", .int 1)]
def xexn (E : Nat) : String := match E with
  | 0 => "java/lang/IndexOutOfBoundsException"
  | 1 => "java/lang/IllegalArgumentException"
  | 2 => "java/lang/IllegalStateException"
  | _ => ""
abbrev xI : Type := MethodName × ByteArray × Option FieldType × List (Nat × Nat × Nat × Nat) × List (Nat × Nat)
def xil_0 : List xI := [(⟨"SlowTunes$Grid", "<init>", "()V"⟩, prog_2_method_1_code, none, [], [(0, 171), (0, 11), (0, 170)]), (⟨"SlowTunes$Grid", "at", "(II)I"⟩, prog_2_method_2_code, (some (.int)), [], [(2, 104), (0, 11), (2, 102), (2, 103)]), (⟨"SlowTunes$Grid", "put", "(III)V"⟩, prog_2_method_3_code, none, [], [(2, 112), (0, 11), (2, 110), (2, 111)]), (⟨"SlowTunes$Grid", "clear", "()V"⟩, prog_2_method_4_code, none, [], [(2, 89), (0, 11), (2, 87), (2, 88)]), (⟨"SlowTunes$Grid", "tellFromBegin", "(LSlowTunes$State;II)V"⟩, prog_2_method_5_code, none, [], [(2, 85), (0, 11), (2, 83), (2, 84)]), (⟨"SlowTunes$Grid", "tellRowFromBegin", "(LSlowTunes$State;III)V"⟩, prog_2_method_6_code, none, [], [(2, 97), (0, 11), (2, 96), (50, 14)]), (⟨"SlowTunes$Grid", "tellFromEnd", "(LSlowTunes$State;)V"⟩, prog_2_method_7_code, none, [], [(2, 116), (0, 11), (2, 114), (2, 115)]), (⟨"SlowTunes$Grid", "tellRowFromEnd", "(LSlowTunes$State;I)V"⟩, prog_2_method_8_code, none, [], [(2, 120), (0, 11), (2, 119), (50, 15)]), (⟨"SlowTunes$Hash", "<init>", "()V"⟩, prog_3_method_1_code, none, [], [(2, 198), (0, 29), (2, 197)]), (⟨"SlowTunes$Hash", "add", "(J)V"⟩, prog_3_method_2_code, none, [], [(2, 212), (0, 29), (2, 210), (2, 211)]), (⟨"SlowTunes$Hash", "addTruth", "(Z)V"⟩, prog_3_method_3_code, none, [], [(2, 226), (0, 29), (2, 224), (2, 225)]), (⟨"SlowTunes$Matches", "<init>", "()V"⟩, prog_4_method_1_code, none, [], [(0, 165), (0, 10), (0, 164)]), (⟨"SlowTunes$Matches", "find", "(LSlowTunes$State;)V"⟩, prog_4_method_2_code, none, [], [(2, 81), (0, 10), (2, 79), (2, 80)]), (⟨"SlowTunes$Matches", "leastTo", "(II)I"⟩, prog_4_method_3_code, (some (.int)), [], [(3, 55), (0, 10), (3, 53), (3, 54)]), (⟨"SlowTunes$Matches", "leastFromBegin", "(LSlowTunes$State;)I"⟩, prog_4_method_4_code, (some (.int)), [], [(2, 231), (0, 10), (2, 229), (2, 230)]), (⟨"SlowTunes$Matches", "leastFromEnd", "()I"⟩, prog_4_method_5_code, (some (.int)), [], [(2, 235), (0, 10), (2, 233), (2, 234)]), (⟨"SlowTunes$Matches", "noteOf", "(II)I"⟩, prog_4_method_6_code, (some (.int)), [], [(3, 29), (0, 10), (3, 27), (3, 28)]), (⟨"SlowTunes$Matches", "stretchOf", "(II)I"⟩, prog_4_method_7_code, (some (.int)), [], [(3, 41), (0, 10), (3, 39), (3, 40)]), (⟨"SlowTunes$Matches", "greatestStretch", "(I)I"⟩, prog_4_method_8_code, (some (.int)), [], [(3, 37), (0, 10), (3, 35), (3, 36)]), (⟨"SlowTunes$Matches", "shareOfBoth", "()D"⟩, prog_4_method_9_code, (some (.double)), [], [(2, 189), (0, 10), (2, 187), (2, 188)]), (⟨"SlowTunes$Matches", "tellSteps", "(LSlowTunes$State;)V"⟩, prog_4_method_10_code, none, [], [(2, 134), (0, 10), (2, 133), (50, 16)]), (⟨"SlowTunes$Matches", "isBestStep", "(LSlowTunes$State;III)Z"⟩, prog_4_method_11_code, (some (.boolean)), [], [(2, 139), (0, 10), (2, 138), (50, 17)]), (⟨"SlowTunes$Matches", "firstAfter", "(II)I"⟩, prog_4_method_12_code, (some (.int)), [], [(2, 142), (0, 10), (2, 141)]), (⟨"SlowTunes$Matches", "secondAfter", "(II)I"⟩, prog_4_method_13_code, (some (.int)), [], [(2, 145), (0, 10), (2, 144)]), (⟨"SlowTunes$Matches", "walkFirst", "(LSlowTunes$State;)V"⟩, prog_4_method_14_code, none, [], [(2, 155), (0, 10), (2, 154), (50, 18)]), (⟨"SlowTunes$Matches", "addPair", "(II)V"⟩, prog_4_method_15_code, none, [], [(2, 161), (0, 10), (2, 160), (50, 19)]), (⟨"SlowTunes$Parts", "<init>", "()V"⟩, prog_5_method_1_code, none, [], [(0, 220), (0, 12), (0, 219)]), (⟨"SlowTunes$Parts", "find", "(LSlowTunes$State;)V"⟩, prog_5_method_2_code, none, [], [(3, 7), (0, 12), (3, 5), (3, 6)]), (⟨"SlowTunes$Parts", "tellCell", "(LSlowTunes$State;II)V"⟩, prog_5_method_3_code, none, [], [(3, 11), (0, 12), (3, 10), (50, 26)]), (⟨"SlowTunes$Parts", "consider", "(II)V"⟩, prog_5_method_4_code, none, [], [(3, 15), (0, 12), (3, 14), (50, 27)]), (⟨"SlowTunes$Parts", "choose", "(II)V"⟩, prog_5_method_5_code, none, [], [(3, 22), (0, 12), (3, 21), (50, 28)]), (⟨"SlowTunes$Reader", "<init>", "()V"⟩, prog_6_method_1_code, none, [], [(0, 136), (0, 7), (0, 135)])]
def xil_1 : List xI := [(⟨"SlowTunes$Reader", "begin", "()V"⟩, prog_6_method_2_code, none, [], [(1, 160), (0, 7), (1, 158), (1, 159)]), (⟨"SlowTunes$Reader", "isComplete", "()Z"⟩, prog_6_method_3_code, (some (.boolean)), [], [(4, 71), (0, 7), (4, 69), (4, 70)]), (⟨"SlowTunes$Reader", "take", "(I)Z"⟩, prog_6_method_4_code, (some (.boolean)), [], [(1, 164), (0, 7), (1, 162), (1, 163)]), (⟨"SlowTunes$Reader", "takeLetter", "(I)Z"⟩, prog_6_method_5_code, (some (.boolean)), [], [(1, 168), (0, 7), (1, 167), (50, 6)]), (⟨"SlowTunes$Reader", "beginsAsRead", "(LSlowTunes$Word;)Z"⟩, prog_6_method_6_code, (some (.boolean)), [], [(1, 174), (0, 7), (1, 173), (50, 7)]), (⟨"SlowTunes$Reader", "takeTune", "(I)Z"⟩, prog_6_method_7_code, (some (.boolean)), [], [(1, 229), (0, 7), (1, 228), (50, 8)]), (⟨"SlowTunes$Reader", "takeFirstDigit", "(I)Z"⟩, prog_6_method_8_code, (some (.boolean)), [], [(1, 233), (0, 7), (1, 232), (50, 9)]), (⟨"SlowTunes$Reader", "takeDigit", "(I)Z"⟩, prog_6_method_9_code, (some (.boolean)), [], [(1, 237), (0, 7), (1, 236), (50, 10)]), (⟨"SlowTunes$Reader", "takeComma", "(I)Z"⟩, prog_6_method_10_code, (some (.boolean)), [], [(2, 5), (0, 7), (2, 4), (50, 11)]), (⟨"SlowTunes$Reader", "takeSemicolon", "(I)Z"⟩, prog_6_method_11_code, (some (.boolean)), [], [(2, 9), (0, 7), (2, 8), (50, 12)]), (⟨"SlowTunes$Reader", "lastNumber", "()I"⟩, prog_6_method_12_code, (some (.int)), [], [(2, 1), (0, 7), (1, 239), (2, 0)]), (⟨"SlowTunes$Reader", "singTo", "(LSlowTunes$Tune;)Z"⟩, prog_6_method_13_code, (some (.boolean)), [], [(4, 89), (0, 7), (4, 87), (4, 88)]), (⟨"SlowTunes$State", "<init>", "()V"⟩, prog_7_method_1_code, none, [], [(0, 44), (0, 2), (0, 43)]), (⟨"SlowTunes$State", "copyFrom", "(LSlowTunes$State;)V"⟩, prog_7_method_2_code, none, [], [(1, 76), (0, 2), (1, 74), (1, 75)]), (⟨"SlowTunes$State", "tuneOf", "(I)LSlowTunes$Tune;"⟩, prog_7_method_3_code, (some (.object "SlowTunes$Tune")), [], [(3, 46), (0, 2), (3, 44), (3, 45)]), (⟨"SlowTunes$State", "swapTunes", "()V"⟩, prog_7_method_4_code, none, [], [(1, 144), (0, 2), (1, 142), (1, 143)]), (⟨"SlowTunes$State", "bothLengths", "()I"⟩, prog_7_method_5_code, (some (.int)), [], [(2, 22), (0, 2), (2, 20), (2, 21)]), (⟨"SlowTunes$State", "lengthsApart", "()I"⟩, prog_7_method_6_code, (some (.int)), [], [(2, 66), (0, 2), (2, 64), (2, 65)]), (⟨"SlowTunes$State", "hasEmptyTune", "()Z"⟩, prog_7_method_7_code, (some (.boolean)), [], [(2, 62), (0, 2), (2, 60), (2, 61)]), (⟨"SlowTunes$State", "hasMatch", "()Z"⟩, prog_7_method_8_code, (some (.boolean)), [], [(2, 58), (0, 2), (2, 56), (2, 57)]), (⟨"SlowTunes$State", "isLastPair", "(II)Z"⟩, prog_7_method_9_code, (some (.boolean)), [], [(2, 124), (0, 2), (2, 122), (2, 123)]), (⟨"SlowTunes$State", "difference", "(II)I"⟩, prog_7_method_10_code, (some (.int)), [], [(2, 128), (0, 2), (2, 126), (2, 127)]), (⟨"SlowTunes$State", "judged", "(I)I"⟩, prog_7_method_11_code, (some (.int)), [], [(2, 108), (0, 2), (2, 106), (2, 107)]), (⟨"SlowTunes$Tune", "<init>", "()V"⟩, prog_8_method_1_code, none, [], [(0, 50), (0, 3), (0, 49)]), (⟨"SlowTunes$Tune", "copyFrom", "(LSlowTunes$Tune;)V"⟩, prog_8_method_2_code, none, [], [(1, 80), (0, 3), (1, 78), (1, 79)]), (⟨"SlowTunes$Tune", "hasNote", "(I)Z"⟩, prog_8_method_3_code, (some (.boolean)), [], [(3, 215), (0, 3), (3, 213), (3, 214)]), (⟨"SlowTunes$Tune", "pitchOf", "(I)I"⟩, prog_8_method_4_code, (some (.int)), [], [(2, 50), (0, 3), (2, 48), (2, 49)]), (⟨"SlowTunes$Tune", "put", "(II)V"⟩, prog_8_method_5_code, none, [], [(3, 201), (0, 3), (3, 199), (3, 200)]), (⟨"SlowTunes$Tune", "add", "(I)V"⟩, prog_8_method_6_code, none, [], [(3, 197), (0, 3), (3, 195), (3, 196)]), (⟨"SlowTunes$Tune", "takeOut", "(I)V"⟩, prog_8_method_7_code, none, [], [(3, 228), (0, 3), (3, 226), (3, 227)]), (⟨"SlowTunes$Tune", "canRise", "(I)Z"⟩, prog_8_method_8_code, (some (.boolean)), [], [(3, 239), (0, 3), (3, 237), (3, 238)]), (⟨"SlowTunes$Tune", "rise", "(I)V"⟩, prog_8_method_9_code, none, [], [(4, 4), (0, 3), (4, 2), (4, 3)])]
def xil_2 : List xI := [(⟨"SlowTunes$Tune", "canDouble", "()Z"⟩, prog_8_method_10_code, (some (.boolean)), [], [(4, 15), (0, 3), (4, 13), (4, 14)]), (⟨"SlowTunes$Tune", "doubleNotes", "()V"⟩, prog_8_method_11_code, none, [], [(4, 20), (0, 3), (4, 18), (4, 19)]), (⟨"SlowTunes$Tune", "turnRound", "()V"⟩, prog_8_method_12_code, none, [], [(4, 31), (0, 3), (4, 29), (4, 30)]), (⟨"SlowTunes$Tune", "countRises", "()I"⟩, prog_8_method_13_code, (some (.int)), [], [(2, 46), (0, 3), (2, 44), (2, 45)]), (⟨"SlowTunes$Word", "letterAt", "(I)I"⟩, prog_9_method_4_code, (some (.int)), [], [(1, 178), (0, 9), (1, 176), (1, 177)]), (⟨"SlowTunes", "<init>", "()V"⟩, prog_1_method_1_code, none, [], [(0, 36), (0, 1), (0, 35)]), (⟨"SlowTunes", "addNote", "(II)I"⟩, prog_1_method_2_code, (some (.int)), [], [(3, 83), (0, 1), (3, 81), (3, 82)]), (⟨"SlowTunes", "setNote", "(III)I"⟩, prog_1_method_3_code, (some (.int)), [], [(3, 208), (0, 1), (3, 206), (3, 207)]), (⟨"SlowTunes", "dropNote", "(II)I"⟩, prog_1_method_4_code, (some (.int)), [], [(3, 224), (0, 1), (3, 222), (3, 223)]), (⟨"SlowTunes", "shift", "(II)I"⟩, prog_1_method_5_code, (some (.int)), [], [(3, 235), (0, 1), (3, 233), (3, 234)]), (⟨"SlowTunes", "slow", "(I)I"⟩, prog_1_method_6_code, (some (.int)), [], [(4, 11), (0, 1), (4, 9), (4, 10)]), (⟨"SlowTunes", "flip", "(I)I"⟩, prog_1_method_7_code, (some (.int)), [], [(4, 27), (0, 1), (4, 25), (4, 26)]), (⟨"SlowTunes", "exchange", "()I"⟩, prog_1_method_8_code, (some (.int)), [], [(1, 47), (0, 1), (1, 45), (1, 46)]), (⟨"SlowTunes", "setBound", "(I)I"⟩, prog_1_method_9_code, (some (.int)), [], [(4, 38), (0, 1), (4, 36), (4, 37)]), (⟨"SlowTunes", "setHold", "(I)I"⟩, prog_1_method_10_code, (some (.int)), [], [(4, 45), (0, 1), (4, 43), (4, 44)]), (⟨"SlowTunes", "setJudge", "(I)I"⟩, prog_1_method_11_code, (some (.int)), [], [(4, 52), (0, 1), (4, 50), (4, 51)]), (⟨"SlowTunes", "append", "(I)I"⟩, prog_1_method_12_code, (some (.int)), [], [(4, 59), (0, 1), (4, 57), (4, 58)]), (⟨"SlowTunes", "clearBuffer", "()I"⟩, prog_1_method_13_code, (some (.int)), [], [(1, 148), (0, 1), (1, 146), (1, 147)]), (⟨"SlowTunes", "firstError", "()I"⟩, prog_1_method_14_code, (some (.int)), [], [(1, 152), (0, 1), (1, 150), (1, 151)]), (⟨"SlowTunes", "work", "()I"⟩, prog_1_method_15_code, (some (.int)), [], [(4, 67), (0, 1), (4, 65), (4, 66)]), (⟨"SlowTunes", "hasStopped", "()Z"⟩, prog_1_method_16_code, (some (.boolean)), [], [(2, 14), (0, 1), (2, 12), (2, 13)]), (⟨"SlowTunes", "stoppedPart", "()I"⟩, prog_1_method_17_code, (some (.int)), [], [(4, 111), (0, 1), (4, 109), (4, 110)]), (⟨"SlowTunes", "whyStopped", "()I"⟩, prog_1_method_18_code, (some (.int)), [], [(4, 123), (0, 1), (4, 121), (4, 122)]), (⟨"SlowTunes", "undo", "()I"⟩, prog_1_method_19_code, (some (.int)), [], [(4, 130), (0, 1), (4, 128), (4, 129)]), (⟨"SlowTunes", "keep", "()I"⟩, prog_1_method_20_code, (some (.int)), [], [(2, 18), (0, 1), (2, 16), (2, 17)]), (⟨"SlowTunes", "restore", "()I"⟩, prog_1_method_21_code, (some (.int)), [], [(4, 142), (0, 1), (4, 140), (4, 141)]), (⟨"SlowTunes", "savedStates", "()I"⟩, prog_1_method_22_code, (some (.int)), [], [(2, 26), (0, 1), (2, 24), (2, 25)]), (⟨"SlowTunes", "notes", "(I)I"⟩, prog_1_method_23_code, (some (.int)), [], [(4, 150), (0, 1), (4, 148), (4, 149)]), (⟨"SlowTunes", "pitch", "(II)I"⟩, prog_1_method_24_code, (some (.int)), [], [(4, 157), (0, 1), (4, 155), (4, 156)]), (⟨"SlowTunes", "bound", "()I"⟩, prog_1_method_25_code, (some (.int)), [], [(2, 30), (0, 1), (2, 28), (2, 29)]), (⟨"SlowTunes", "hold", "()I"⟩, prog_1_method_26_code, (some (.int)), [], [(2, 34), (0, 1), (2, 32), (2, 33)]), (⟨"SlowTunes", "judge", "()I"⟩, prog_1_method_27_code, (some (.int)), [], [(2, 38), (0, 1), (2, 36), (2, 37)])]
def xil_3 : List xI := [(⟨"SlowTunes", "unlike", "(II)I"⟩, prog_1_method_28_code, (some (.int)), [], [(4, 164), (0, 1), (4, 162), (4, 163)]), (⟨"SlowTunes", "rises", "()I"⟩, prog_1_method_29_code, (some (.int)), [], [(2, 42), (0, 1), (2, 40), (2, 41)]), (⟨"SlowTunes", "isMatched", "()Z"⟩, prog_1_method_30_code, (some (.boolean)), [], [(2, 54), (0, 1), (2, 52), (2, 53)]), (⟨"SlowTunes", "cost", "()I"⟩, prog_1_method_31_code, (some (.int)), [], [(4, 172), (0, 1), (4, 170), (4, 171)]), (⟨"SlowTunes", "costFromEnd", "()I"⟩, prog_1_method_32_code, (some (.int)), [], [(4, 184), (0, 1), (4, 182), (4, 183)]), (⟨"SlowTunes", "costTo", "(II)I"⟩, prog_1_method_33_code, (some (.int)), [], [(4, 191), (0, 1), (4, 189), (4, 190)]), (⟨"SlowTunes", "pairs", "()I"⟩, prog_1_method_34_code, (some (.int)), [], [(4, 198), (0, 1), (4, 196), (4, 197)]), (⟨"SlowTunes", "noteOfPair", "(II)I"⟩, prog_1_method_35_code, (some (.int)), [], [(4, 205), (0, 1), (4, 203), (4, 204)]), (⟨"SlowTunes", "stretch", "(II)I"⟩, prog_1_method_36_code, (some (.int)), [], [(4, 213), (0, 1), (4, 211), (4, 212)]), (⟨"SlowTunes", "longestStretch", "(I)I"⟩, prog_1_method_37_code, (some (.int)), [], [(4, 220), (0, 1), (4, 218), (4, 219)]), (⟨"SlowTunes", "holds", "()I"⟩, prog_1_method_38_code, (some (.int)), [], [(2, 73), (0, 1), (2, 71), (2, 72)]), (⟨"SlowTunes", "bestMatches", "()I"⟩, prog_1_method_39_code, (some (.int)), [], [(2, 165), (0, 1), (2, 163), (2, 164)]), (⟨"SlowTunes", "partCost", "()I"⟩, prog_1_method_40_code, (some (.int)), [], [(4, 227), (0, 1), (4, 225), (4, 226)]), (⟨"SlowTunes", "partBegin", "()I"⟩, prog_1_method_41_code, (some (.int)), [], [(4, 239), (0, 1), (4, 237), (4, 238)]), (⟨"SlowTunes", "partEnd", "()I"⟩, prog_1_method_42_code, (some (.int)), [], [(5, 6), (0, 1), (5, 4), (5, 5)]), (⟨"SlowTunes", "costWithShift", "(I)I"⟩, prog_1_method_43_code, (some (.int)), [], [(5, 13), (0, 1), (5, 11), (5, 12)]), (⟨"SlowTunes", "bestShift", "()I"⟩, prog_1_method_44_code, (some (.int)), [], [(5, 20), (0, 1), (5, 18), (5, 19)]), (⟨"SlowTunes", "costWithBound", "(I)I"⟩, prog_1_method_45_code, (some (.int)), [], [(5, 27), (0, 1), (5, 25), (5, 26)]), (⟨"SlowTunes", "neededBound", "()I"⟩, prog_1_method_46_code, (some (.int)), [], [(2, 169), (0, 1), (2, 167), (2, 168)]), (⟨"SlowTunes", "evenShare", "()D"⟩, prog_1_method_47_code, (some (.double)), [], [(2, 185), (0, 1), (2, 183), (2, 184)]), (⟨"SlowTunes", "digest", "()J"⟩, prog_1_method_48_code, (some (.long)), [], [(2, 193), (0, 1), (2, 191), (2, 192)]), (⟨"SlowTunes", "checkTune", "(I)V"⟩, prog_1_method_49_code, none, [], [(3, 90), (0, 1), (3, 89)]), (⟨"SlowTunes", "tuneAt", "(I)LSlowTunes$Tune;"⟩, prog_1_method_50_code, (some (.object "SlowTunes$Tune")), [], [(3, 87), (0, 1), (3, 86), (50, 33)]), (⟨"SlowTunes", "checkNote", "(LSlowTunes$Tune;I)V"⟩, prog_1_method_51_code, none, [], [(3, 211), (0, 1), (3, 210)]), (⟨"SlowTunes", "checkRange", "(III)V"⟩, prog_1_method_52_code, none, [], [(3, 161), (0, 1), (3, 160)]), (⟨"SlowTunes", "checkMatched", "()V"⟩, prog_1_method_53_code, none, [], [(4, 176), (0, 1), (4, 175), (50, 39)]), (⟨"SlowTunes", "checkNoneEmpty", "()V"⟩, prog_1_method_54_code, none, [], [(4, 231), (0, 1), (4, 230), (50, 40)]), (⟨"SlowTunes", "checkStopped", "()V"⟩, prog_1_method_55_code, none, [], [(4, 115), (0, 1), (4, 114), (50, 38)]), (⟨"SlowTunes", "saveState", "()V"⟩, prog_1_method_56_code, none, [], [(1, 51), (0, 1), (1, 50), (50, 0)]), (⟨"SlowTunes", "found", "()LSlowTunes$Matches;"⟩, prog_1_method_57_code, (some (.object "SlowTunes$Matches")), [], [(2, 77), (0, 1), (2, 76), (50, 13)]), (⟨"SlowTunes", "orNothing", "(I)I"⟩, prog_1_method_58_code, (some (.int)), [], [(3, 58), (0, 1), (3, 57)]), (⟨"SlowTunes", "costIf", "(II)I"⟩, prog_1_method_59_code, (some (.int)), [], [(2, 178), (0, 1), (2, 177), (50, 21)])]
def xil_4 : List xI := [(⟨"SlowTunes", "nearestBestShift", "()I"⟩, prog_1_method_60_code, (some (.int)), [], [(2, 239), (0, 1), (2, 238), (50, 24)]), (⟨"SlowTunes", "leastNeededBound", "()I"⟩, prog_1_method_61_code, (some (.int)), [], [(2, 173), (0, 1), (2, 172), (50, 20)]), (⟨"SlowTunes", "readUpToError", "()I"⟩, prog_1_method_62_code, (some (.int)), [], [(1, 156), (0, 1), (1, 155), (50, 5)]), (⟨"SlowTunes", "doParts", "()I"⟩, prog_1_method_63_code, (some (.int)), [], [(4, 76), (0, 1), (4, 75), (50, 35)]), (⟨"SlowTunes", "doPart", "()I"⟩, prog_1_method_64_code, (some (.int)), [], [(4, 80), (0, 1), (4, 79), (50, 36)]), (⟨"SlowTunes", "doWithTune", "(LSlowTunes$Word;LSlowTunes$Tune;)I"⟩, prog_1_method_65_code, (some (.int)), [], [(4, 84), (0, 1), (4, 83), (50, 37)]), (⟨"SlowTunes", "raise", "(LSlowTunes$Tune;I)I"⟩, prog_1_method_66_code, (some (.int)), [], [(4, 96), (0, 1), (4, 95)]), (⟨"SlowTunes", "addTune", "(LSlowTunes$Hash;LSlowTunes$Tune;)V"⟩, prog_1_method_67_code, none, [], [(2, 208), (0, 1), (2, 207)]), (⟨"SlowTunes", "addSettings", "(LSlowTunes$Hash;)V"⟩, prog_1_method_68_code, none, [], [(2, 218), (0, 1), (2, 217), (50, 22)]), (⟨"SlowTunes", "addBest", "(LSlowTunes$Hash;LSlowTunes$Matches;)V"⟩, prog_1_method_69_code, none, [], [(2, 222), (0, 1), (2, 221), (50, 23)]), (⟨"SlowTunes", "addPart", "(LSlowTunes$Hash;)V"⟩, prog_1_method_70_code, none, [], [(3, 3), (0, 1), (3, 2), (50, 25)]), (⟨"SlowTunes", "addPairs", "(LSlowTunes$Hash;LSlowTunes$Matches;)V"⟩, prog_1_method_71_code, none, [], [(3, 25), (0, 1), (3, 24)]), (⟨"SlowTunes", "addStretches", "(LSlowTunes$Hash;LSlowTunes$Matches;I)V"⟩, prog_1_method_72_code, none, [], [(3, 33), (0, 1), (3, 32), (50, 29)]), (⟨"SlowTunes", "addCosts", "(LSlowTunes$Hash;LSlowTunes$Matches;)V"⟩, prog_1_method_73_code, none, [], [(3, 51), (0, 1), (3, 50), (50, 30)]), (⟨"SlowTunes", "addStop", "(LSlowTunes$Hash;)V"⟩, prog_1_method_74_code, none, [], [(3, 63), (0, 1), (3, 62), (50, 31)]), (⟨"SlowTunes", "addBuffer", "(LSlowTunes$Hash;)V"⟩, prog_1_method_75_code, none, [], [(3, 73), (0, 1), (3, 72), (50, 32)]), (⟨"SlowTunes", "bitsOf", "(D)J"⟩, prog_1_method_76_code, (some (.long)), [], [(3, 66), (0, 1), (3, 65)]), (⟨"SlowTunesModel", "<init>", "()V"⟩, prog_11_method_1_code, none, [], [(5, 32), (0, 13), (5, 31)]), (⟨"SlowTunesModel", "thrown", "()I"⟩, prog_11_method_2_code, (some (.int)), [], [(5, 104), (0, 13), (5, 102), (5, 103)]), (⟨"SlowTunesModel", "fails", "(I)I"⟩, prog_11_method_3_code, (some (.int)), [], [(5, 118), (0, 13), (5, 117), (50, 41)]), (⟨"SlowTunesModel", "in", "(III)Z"⟩, prog_11_method_4_code, (some (.boolean)), [], [(5, 114), (0, 13), (5, 113)]), (⟨"SlowTunesModel", "isTune", "(I)Z"⟩, prog_11_method_5_code, (some (.boolean)), [], [(5, 111), (0, 13), (5, 110)]), (⟨"SlowTunesModel", "many", "(I)I"⟩, prog_11_method_6_code, (some (.int)), [], [(5, 125), (0, 13), (5, 124), (50, 42)]), (⟨"SlowTunesModel", "isNote", "(II)Z"⟩, prog_11_method_7_code, (some (.boolean)), [], [(5, 141), (0, 13), (5, 140), (50, 45)]), (⟨"SlowTunesModel", "isPitch", "(I)Z"⟩, prog_11_method_8_code, (some (.boolean)), [], [(5, 121), (0, 13), (5, 120)]), (⟨"SlowTunesModel", "of", "(II)I"⟩, prog_11_method_9_code, (some (.int)), [], [(5, 145), (0, 13), (5, 144), (50, 46)]), (⟨"SlowTunesModel", "lay", "(III)V"⟩, prog_11_method_10_code, none, [], [(5, 133), (0, 13), (5, 132), (50, 44)]), (⟨"SlowTunesModel", "records", "()V"⟩, prog_11_method_11_code, none, [], [(5, 129), (0, 13), (5, 128), (50, 43)]), (⟨"SlowTunesModel", "unlikeBy", "(III)I"⟩, prog_11_method_12_code, (some (.int)), [], [(6, 85), (0, 13), (6, 84), (50, 66)]), (⟨"SlowTunesModel", "isNear", "(III)Z"⟩, prog_11_method_13_code, (some (.boolean)), [], [(6, 104), (0, 13), (6, 103)]), (⟨"SlowTunesModel", "least", "(II)I"⟩, prog_11_method_14_code, (some (.int)), [], [(6, 127), (0, 13), (6, 126)]), (⟨"SlowTunesModel", "isThere", "(II)Z"⟩, prog_11_method_15_code, (some (.boolean)), [], [(6, 123), (0, 13), (6, 122)])]
def xil_5 : List xI := [(⟨"SlowTunesModel", "aheadOf", "(II)I"⟩, prog_11_method_16_code, (some (.int)), [], [(6, 120), (0, 13), (6, 119), (50, 71)]), (⟨"SlowTunesModel", "tellsAhead", "(II)I"⟩, prog_11_method_17_code, (some (.int)), [], [(6, 116), (0, 13), (6, 115), (50, 70)]), (⟨"SlowTunesModel", "behindOf", "(II)I"⟩, prog_11_method_18_code, (some (.int)), [], [(6, 151), (0, 13), (6, 150), (50, 74)]), (⟨"SlowTunesModel", "waysOf", "(III)I"⟩, prog_11_method_19_code, (some (.int)), [], [(6, 155), (0, 13), (6, 154), (50, 75)]), (⟨"SlowTunesModel", "tellsBehind", "()V"⟩, prog_11_method_20_code, none, [], [(6, 147), (0, 13), (6, 146), (50, 73)]), (⟨"SlowTunesModel", "matches", "()Z"⟩, prog_11_method_21_code, (some (.boolean)), [], [(6, 101), (0, 13), (6, 100), (50, 68)]), (⟨"SlowTunesModel", "addsPair", "(II)V"⟩, prog_11_method_22_code, none, [], [(6, 160), (0, 13), (6, 159), (50, 76)]), (⟨"SlowTunesModel", "tellsMatch", "()V"⟩, prog_11_method_23_code, none, [], [(6, 143), (0, 13), (6, 142), (50, 72)]), (⟨"SlowTunesModel", "holdMany", "()I"⟩, prog_11_method_24_code, (some (.int)), [], [(6, 188), (0, 13), (6, 187), (50, 79)]), (⟨"SlowTunesModel", "stretchOf", "(II)I"⟩, prog_11_method_25_code, (some (.int)), [], [(6, 172), (0, 13), (6, 171), (50, 77)]), (⟨"SlowTunesModel", "longest", "(I)I"⟩, prog_11_method_26_code, (some (.int)), [], [(6, 180), (0, 13), (6, 179), (50, 78)]), (⟨"SlowTunesModel", "waysMany", "()I"⟩, prog_11_method_27_code, (some (.int)), [], [(6, 196), (0, 13), (6, 195), (50, 80)]), (⟨"SlowTunesModel", "begunBy", "(IIII)I"⟩, prog_11_method_28_code, (some (.int)), [], [(6, 212), (0, 13), (6, 211), (50, 83)]), (⟨"SlowTunesModel", "tellsParts", "()I"⟩, prog_11_method_29_code, (some (.int)), [], [(6, 208), (0, 13), (6, 207), (50, 82)]), (⟨"SlowTunesModel", "partBegins", "()I"⟩, prog_11_method_30_code, (some (.int)), [], [(6, 220), (0, 13), (6, 219), (50, 84)]), (⟨"SlowTunesModel", "partEndsAt", "()I"⟩, prog_11_method_31_code, (some (.int)), [], [(6, 228), (0, 13), (6, 227), (50, 85)]), (⟨"SlowTunesModel", "isBare", "()Z"⟩, prog_11_method_32_code, (some (.boolean)), [], [(6, 204), (0, 13), (6, 203), (50, 81)]), (⟨"SlowTunesModel", "shiftBest", "()I"⟩, prog_11_method_33_code, (some (.int)), [], [(7, 0), (0, 13), (6, 239), (50, 86)]), (⟨"SlowTunesModel", "needs", "()I"⟩, prog_11_method_34_code, (some (.int)), [], [(7, 12), (0, 13), (7, 11), (50, 87)]), (⟨"SlowTunesModel", "swaps", "()I"⟩, prog_11_method_35_code, (some (.int)), [], [(5, 189), (0, 13), (5, 188), (50, 52)]), (⟨"SlowTunesModel", "canShift", "(II)Z"⟩, prog_11_method_36_code, (some (.boolean)), [], [(5, 157), (0, 13), (5, 156), (50, 47)]), (⟨"SlowTunesModel", "shifts", "(II)V"⟩, prog_11_method_37_code, none, [], [(5, 161), (0, 13), (5, 160), (50, 48)]), (⟨"SlowTunesModel", "canSlow", "(I)Z"⟩, prog_11_method_38_code, (some (.boolean)), [], [(5, 169), (0, 13), (5, 168), (50, 49)]), (⟨"SlowTunesModel", "slows", "(I)V"⟩, prog_11_method_39_code, none, [], [(5, 173), (0, 13), (5, 172), (50, 50)]), (⟨"SlowTunesModel", "flips", "(I)V"⟩, prog_11_method_40_code, none, [], [(5, 181), (0, 13), (5, 180), (50, 51)]), (⟨"SlowTunesModel", "addNote", "(II)I"⟩, prog_11_method_41_code, (some (.int)), [], [(5, 108), (0, 13), (5, 106), (5, 107)]), (⟨"SlowTunesModel", "setNote", "(III)I"⟩, prog_11_method_42_code, (some (.int)), [], [(5, 137), (0, 13), (5, 135), (5, 136)]), (⟨"SlowTunesModel", "dropNote", "(II)I"⟩, prog_11_method_43_code, (some (.int)), [], [(5, 149), (0, 13), (5, 147), (5, 148)]), (⟨"SlowTunesModel", "shift", "(II)I"⟩, prog_11_method_44_code, (some (.int)), [], [(5, 153), (0, 13), (5, 151), (5, 152)]), (⟨"SlowTunesModel", "slow", "(I)I"⟩, prog_11_method_45_code, (some (.int)), [], [(5, 165), (0, 13), (5, 163), (5, 164)]), (⟨"SlowTunesModel", "flip", "(I)I"⟩, prog_11_method_46_code, (some (.int)), [], [(5, 177), (0, 13), (5, 175), (5, 176)]), (⟨"SlowTunesModel", "exchange", "()I"⟩, prog_11_method_47_code, (some (.int)), [], [(5, 185), (0, 13), (5, 183), (5, 184)])]
def xil_6 : List xI := [(⟨"SlowTunesModel", "sets", "(III)I"⟩, prog_11_method_48_code, (some (.int)), [], [(5, 197), (0, 13), (5, 196), (50, 53)]), (⟨"SlowTunesModel", "setBound", "(I)I"⟩, prog_11_method_49_code, (some (.int)), [], [(5, 193), (0, 13), (5, 191), (5, 192)]), (⟨"SlowTunesModel", "setHold", "(I)I"⟩, prog_11_method_50_code, (some (.int)), [], [(5, 201), (0, 13), (5, 199), (5, 200)]), (⟨"SlowTunesModel", "setJudge", "(I)I"⟩, prog_11_method_51_code, (some (.int)), [], [(5, 205), (0, 13), (5, 203), (5, 204)]), (⟨"SlowTunesModel", "append", "(I)I"⟩, prog_11_method_52_code, (some (.int)), [], [(5, 209), (0, 13), (5, 207), (5, 208)]), (⟨"SlowTunesModel", "clearBuffer", "()I"⟩, prog_11_method_53_code, (some (.int)), [], [(5, 213), (0, 13), (5, 211), (5, 212)]), (⟨"SlowTunesModel", "sign", "()I"⟩, prog_11_method_54_code, (some (.int)), [], [(5, 233), (0, 13), (5, 232), (50, 57)]), (⟨"SlowTunesModel", "takes", "(II)I"⟩, prog_11_method_55_code, (some (.int)), [], [(5, 237), (0, 13), (5, 236), (50, 58)]), (⟨"SlowTunesModel", "takesAll", "(IIII)V"⟩, prog_11_method_56_code, none, [], [(6, 1), (0, 13), (6, 0), (50, 59)]), (⟨"SlowTunesModel", "number", "(II)I"⟩, prog_11_method_57_code, (some (.int)), [], [(6, 9), (0, 13), (6, 8), (50, 61)]), (⟨"SlowTunesModel", "readsPitches", "(I)V"⟩, prog_11_method_58_code, none, [], [(6, 5), (0, 13), (6, 4), (50, 60)]), (⟨"SlowTunesModel", "readsWord", "()I"⟩, prog_11_method_59_code, (some (.int)), [], [(5, 229), (0, 13), (5, 228), (50, 56)]), (⟨"SlowTunesModel", "readsPart", "()V"⟩, prog_11_method_60_code, none, [], [(5, 225), (0, 13), (5, 224), (50, 55)]), (⟨"SlowTunesModel", "readsWorks", "()Z"⟩, prog_11_method_61_code, (some (.boolean)), [], [(5, 221), (0, 13), (5, 220), (50, 54)]), (⟨"SlowTunesModel", "firstError", "()I"⟩, prog_11_method_62_code, (some (.int)), [], [(5, 217), (0, 13), (5, 215), (5, 216)]), (⟨"SlowTunesModel", "sings", "(I)I"⟩, prog_11_method_63_code, (some (.int)), [], [(6, 21), (0, 13), (6, 20), (50, 63)]), (⟨"SlowTunesModel", "moves", "(II)I"⟩, prog_11_method_64_code, (some (.int)), [], [(6, 25), (0, 13), (6, 24), (50, 64)]), (⟨"SlowTunesModel", "does", "(I)I"⟩, prog_11_method_65_code, (some (.int)), [], [(6, 17), (0, 13), (6, 16), (50, 62)]), (⟨"SlowTunesModel", "work", "()I"⟩, prog_11_method_66_code, (some (.int)), [], [(6, 13), (0, 13), (6, 11), (6, 12)]), (⟨"SlowTunesModel", "hasStopped", "()Z"⟩, prog_11_method_67_code, (some (.boolean)), [], [(6, 29), (0, 13), (6, 27), (6, 28)]), (⟨"SlowTunesModel", "stoppedPart", "()I"⟩, prog_11_method_68_code, (some (.int)), [], [(6, 33), (0, 13), (6, 31), (6, 32)]), (⟨"SlowTunesModel", "whyStopped", "()I"⟩, prog_11_method_69_code, (some (.int)), [], [(6, 37), (0, 13), (6, 35), (6, 36)]), (⟨"SlowTunesModel", "undo", "()I"⟩, prog_11_method_70_code, (some (.int)), [], [(6, 41), (0, 13), (6, 39), (6, 40)]), (⟨"SlowTunesModel", "keep", "()I"⟩, prog_11_method_71_code, (some (.int)), [], [(6, 45), (0, 13), (6, 43), (6, 44)]), (⟨"SlowTunesModel", "restore", "()I"⟩, prog_11_method_72_code, (some (.int)), [], [(6, 49), (0, 13), (6, 47), (6, 48)]), (⟨"SlowTunesModel", "savedStates", "()I"⟩, prog_11_method_73_code, (some (.int)), [], [(6, 53), (0, 13), (6, 51), (6, 52)]), (⟨"SlowTunesModel", "notes", "(I)I"⟩, prog_11_method_74_code, (some (.int)), [], [(6, 57), (0, 13), (6, 55), (6, 56)]), (⟨"SlowTunesModel", "pitch", "(II)I"⟩, prog_11_method_75_code, (some (.int)), [], [(6, 61), (0, 13), (6, 59), (6, 60)]), (⟨"SlowTunesModel", "tells", "(I)I"⟩, prog_11_method_76_code, (some (.int)), [], [(6, 69), (0, 13), (6, 68), (50, 65)]), (⟨"SlowTunesModel", "bound", "()I"⟩, prog_11_method_77_code, (some (.int)), [], [(6, 65), (0, 13), (6, 63), (6, 64)]), (⟨"SlowTunesModel", "hold", "()I"⟩, prog_11_method_78_code, (some (.int)), [], [(6, 73), (0, 13), (6, 71), (6, 72)]), (⟨"SlowTunesModel", "judge", "()I"⟩, prog_11_method_79_code, (some (.int)), [], [(6, 77), (0, 13), (6, 75), (6, 76)])]
def xil_7 : List xI := [(⟨"SlowTunesModel", "unlike", "(II)I"⟩, prog_11_method_80_code, (some (.int)), [], [(6, 81), (0, 13), (6, 79), (6, 80)]), (⟨"SlowTunesModel", "riseMany", "()I"⟩, prog_11_method_81_code, (some (.int)), [], [(6, 93), (0, 13), (6, 92), (50, 67)]), (⟨"SlowTunesModel", "rises", "()I"⟩, prog_11_method_82_code, (some (.int)), [], [(6, 89), (0, 13), (6, 87), (6, 88)]), (⟨"SlowTunesModel", "isMatched", "()Z"⟩, prog_11_method_83_code, (some (.boolean)), [], [(6, 97), (0, 13), (6, 95), (6, 96)]), (⟨"SlowTunesModel", "tellsCost", "()I"⟩, prog_11_method_84_code, (some (.int)), [], [(6, 112), (0, 13), (6, 111), (50, 69)]), (⟨"SlowTunesModel", "cost", "()I"⟩, prog_11_method_85_code, (some (.int)), [], [(6, 108), (0, 13), (6, 106), (6, 107)]), (⟨"SlowTunesModel", "costFromEnd", "()I"⟩, prog_11_method_86_code, (some (.int)), [], [(6, 131), (0, 13), (6, 129), (6, 130)]), (⟨"SlowTunesModel", "costTo", "(II)I"⟩, prog_11_method_87_code, (some (.int)), [], [(6, 135), (0, 13), (6, 133), (6, 134)]), (⟨"SlowTunesModel", "pairs", "()I"⟩, prog_11_method_88_code, (some (.int)), [], [(6, 139), (0, 13), (6, 137), (6, 138)]), (⟨"SlowTunesModel", "noteOfPair", "(II)I"⟩, prog_11_method_89_code, (some (.int)), [], [(6, 164), (0, 13), (6, 162), (6, 163)]), (⟨"SlowTunesModel", "stretch", "(II)I"⟩, prog_11_method_90_code, (some (.int)), [], [(6, 168), (0, 13), (6, 166), (6, 167)]), (⟨"SlowTunesModel", "longestStretch", "(I)I"⟩, prog_11_method_91_code, (some (.int)), [], [(6, 176), (0, 13), (6, 174), (6, 175)]), (⟨"SlowTunesModel", "holds", "()I"⟩, prog_11_method_92_code, (some (.int)), [], [(6, 184), (0, 13), (6, 182), (6, 183)]), (⟨"SlowTunesModel", "bestMatches", "()I"⟩, prog_11_method_93_code, (some (.int)), [], [(6, 192), (0, 13), (6, 190), (6, 191)]), (⟨"SlowTunesModel", "partCost", "()I"⟩, prog_11_method_94_code, (some (.int)), [], [(6, 200), (0, 13), (6, 198), (6, 199)]), (⟨"SlowTunesModel", "partBegin", "()I"⟩, prog_11_method_95_code, (some (.int)), [], [(6, 216), (0, 13), (6, 214), (6, 215)]), (⟨"SlowTunesModel", "partEnd", "()I"⟩, prog_11_method_96_code, (some (.int)), [], [(6, 224), (0, 13), (6, 222), (6, 223)]), (⟨"SlowTunesModel", "costWithShift", "(I)I"⟩, prog_11_method_97_code, (some (.int)), [], [(6, 232), (0, 13), (6, 230), (6, 231)]), (⟨"SlowTunesModel", "bestShift", "()I"⟩, prog_11_method_98_code, (some (.int)), [], [(6, 236), (0, 13), (6, 234), (6, 235)]), (⟨"SlowTunesModel", "costWithBound", "(I)I"⟩, prog_11_method_99_code, (some (.int)), [], [(7, 4), (0, 13), (7, 2), (7, 3)]), (⟨"SlowTunesModel", "neededBound", "()I"⟩, prog_11_method_100_code, (some (.int)), [], [(7, 8), (0, 13), (7, 6), (7, 7)]), (⟨"SlowTunesModel", "share", "()D"⟩, prog_11_method_101_code, (some (.double)), [], [(7, 20), (0, 13), (7, 19), (50, 88)]), (⟨"SlowTunesModel", "evenShare", "()D"⟩, prog_11_method_102_code, (some (.double)), [], [(7, 16), (0, 13), (7, 14), (7, 15)]), (⟨"SlowTunesModel", "digestMatch", "(J)J"⟩, prog_11_method_103_code, (some (.long)), [], [(7, 34), (0, 13), (7, 33), (50, 90)]), (⟨"SlowTunesModel", "digestCosts", "(J)J"⟩, prog_11_method_104_code, (some (.long)), [], [(7, 30), (0, 13), (7, 29), (50, 89)]), (⟨"SlowTunesModel", "digest", "()J"⟩, prog_11_method_105_code, (some (.long)), [], [(7, 24), (0, 13), (7, 22), (7, 23)]), (⟨"java/lang/Double", "isNaN", "(D)Z"⟩, prog_16_method_6_code, (some (.boolean)), [], [(7, 40), (0, 31), (7, 39)]), (⟨"java/lang/Double", "doubleToLongBits", "(D)J"⟩, prog_16_method_23_code, (some (.long)), [], [(7, 37), (0, 31), (7, 36)]), (⟨"java/lang/String", "length", "()I"⟩, prog_26_method_54_code, (some (.int)), [], [(1, 182), (0, 26), (1, 180), (1, 181)]), (⟨"java/lang/String", "charAt", "(I)C"⟩, prog_26_method_56_code, (some (.char)), [], [(1, 192), (0, 26), (1, 190), (1, 191)]), (⟨"java/lang/String", "coder", "()B"⟩, prog_26_method_152_code, (some (.byte)), [], [(1, 186), (0, 26), (1, 184), (1, 185)]), (⟨"java/lang/String", "isLatin1", "()Z"⟩, prog_26_method_154_code, (some (.boolean)), [], [(1, 196), (0, 26), (1, 194), (1, 195)])]
def xil_8 : List xI := [(⟨"java/lang/String", "checkIndex", "(II)V"⟩, prog_26_method_155_code, none, [], [(1, 202), (0, 26), (1, 201)]), (⟨"java/lang/StringLatin1", "charAt", "([BI)C"⟩, prog_27_method_2_code, (some (.char)), [], [(1, 199), (0, 27), (1, 198)]), (⟨"java/util/AbstractCollection", "<init>", "()V"⟩, prog_33_method_1_code, none, [], [(0, 116), (0, 4), (0, 115)]), (⟨"java/util/AbstractList", "<init>", "()V"⟩, prog_34_method_1_code, none, [], [(0, 113), (0, 5), (0, 112)]), (⟨"java/util/ArrayList", "<init>", "()V"⟩, prog_35_method_2_code, none, [], [(0, 110), (0, 6), (0, 109)]), (⟨"java/util/ArrayList", "grow", "(I)[Ljava/lang/Object;"⟩, prog_35_method_6_code, (some (.array (.object "java/lang/Object"))), [], [(1, 97), (0, 6), (1, 96), (50, 4)]), (⟨"java/util/ArrayList", "grow", "()[Ljava/lang/Object;"⟩, prog_35_method_7_code, (some (.array (.object "java/lang/Object"))), [], [(1, 93), (0, 6), (1, 92), (50, 3)]), (⟨"java/util/ArrayList", "size", "()I"⟩, prog_35_method_8_code, (some (.int)), [], [(1, 55), (0, 6), (1, 53), (1, 54)]), (⟨"java/util/ArrayList", "isEmpty", "()Z"⟩, prog_35_method_9_code, (some (.boolean)), [], [(4, 134), (0, 6), (4, 132), (4, 133)]), (⟨"java/util/ArrayList", "add", "(Ljava/lang/Object;[Ljava/lang/Object;I)V"⟩, prog_35_method_24_code, none, [], [(1, 89), (0, 6), (1, 88), (50, 2)]), (⟨"java/util/ArrayList", "add", "(Ljava/lang/Object;)Z"⟩, prog_35_method_25_code, (some (.boolean)), [], [(1, 85), (0, 6), (1, 83), (1, 84)]), (⟨"java/util/ArrayList", "remove", "(I)Ljava/lang/Object;"⟩, prog_35_method_29_code, (some (.object "java/lang/Object")), [], [(1, 59), (0, 6), (1, 57), (1, 58)]), (⟨"java/util/ArrayList", "fastRemove", "([Ljava/lang/Object;I)V"⟩, prog_35_method_39_code, none, [], [(1, 69), (0, 6), (1, 68), (50, 1)]), (⟨"java/util/Arrays", "fill", "([II)V"⟩, prog_36_method_103_code, none, [], [(2, 93), (0, 25), (2, 92)]), (⟨"java/util/Objects", "checkIndex", "(II)I"⟩, prog_39_method_17_code, (some (.int)), [], [(1, 62), (0, 20), (1, 61)]), (⟨"jdk/internal/util/Preconditions", "checkIndex", "(IILjava/util/function/BiFunction;)I"⟩, prog_43_method_11_code, (some (.int)), [], [(1, 65), (0, 21), (1, 64)]), (⟨"SlowTunesLaw", "addNote", "(LSlowTunes;II[J)I"⟩, method_3_code, (some (.int)), [(0, 10, 13, 13), (0, 10, 17, 15), (0, 10, 21, 17)], [(3, 76), (0, 0), (3, 75)]), (⟨"SlowTunesLaw", "setNote", "(LSlowTunes;III[J)I"⟩, method_4_code, (some (.int)), [(0, 12, 15, 13), (0, 12, 19, 15)], [(3, 204), (0, 0), (3, 203)]), (⟨"SlowTunesLaw", "dropNote", "(LSlowTunes;II[J)I"⟩, method_5_code, (some (.int)), [(0, 10, 13, 13)], [(3, 220), (0, 0), (3, 219)]), (⟨"SlowTunesLaw", "shift", "(LSlowTunes;II[J)I"⟩, method_6_code, (some (.int)), [(0, 10, 13, 13), (0, 10, 17, 15), (0, 10, 21, 17)], [(3, 231), (0, 0), (3, 230)]), (⟨"SlowTunesLaw", "slow", "(LSlowTunes;I[J)I"⟩, method_7_code, (some (.int)), [(0, 9, 12, 13), (0, 9, 15, 17)], [(4, 7), (0, 0), (4, 6)]), (⟨"SlowTunesLaw", "flip", "(LSlowTunes;I[J)I"⟩, method_8_code, (some (.int)), [(0, 9, 12, 13)], [(4, 23), (0, 0), (4, 22)]), (⟨"SlowTunesLaw", "setBound", "(LSlowTunes;I[J)I"⟩, method_9_code, (some (.int)), [(0, 9, 12, 15)], [(4, 34), (0, 0), (4, 33)]), (⟨"SlowTunesLaw", "setHold", "(LSlowTunes;I[J)I"⟩, method_10_code, (some (.int)), [(0, 9, 12, 15)], [(4, 41), (0, 0), (4, 40)]), (⟨"SlowTunesLaw", "setJudge", "(LSlowTunes;I[J)I"⟩, method_11_code, (some (.int)), [(0, 9, 12, 15)], [(4, 48), (0, 0), (4, 47)]), (⟨"SlowTunesLaw", "append", "(LSlowTunes;I[J)I"⟩, method_12_code, (some (.int)), [(0, 9, 12, 15), (0, 9, 15, 17)], [(4, 55), (0, 0), (4, 54)]), (⟨"SlowTunesLaw", "work", "(LSlowTunes;[J)I"⟩, method_13_code, (some (.int)), [(0, 8, 11, 15)], [(4, 63), (0, 0), (4, 62)]), (⟨"SlowTunesLaw", "stoppedPart", "(LSlowTunes;[J)I"⟩, method_14_code, (some (.int)), [(0, 8, 11, 17)], [(4, 107), (0, 0), (4, 106)]), (⟨"SlowTunesLaw", "whyStopped", "(LSlowTunes;[J)I"⟩, method_15_code, (some (.int)), [(0, 8, 11, 17)], [(4, 119), (0, 0), (4, 118)]), (⟨"SlowTunesLaw", "undo", "(LSlowTunes;[J)I"⟩, method_16_code, (some (.int)), [(0, 8, 11, 17)], [(4, 126), (0, 0), (4, 125)]), (⟨"SlowTunesLaw", "restore", "(LSlowTunes;[J)I"⟩, method_17_code, (some (.int)), [(0, 8, 11, 17)], [(4, 138), (0, 0), (4, 137)]), (⟨"SlowTunesLaw", "notes", "(LSlowTunes;I[J)I"⟩, method_18_code, (some (.int)), [(0, 9, 12, 13)], [(4, 146), (0, 0), (4, 145)])]
def xil_9 : List xI := [(⟨"SlowTunesLaw", "pitch", "(LSlowTunes;II[J)I"⟩, method_19_code, (some (.int)), [(0, 10, 13, 13)], [(4, 153), (0, 0), (4, 152)]), (⟨"SlowTunesLaw", "unlike", "(LSlowTunes;II[J)I"⟩, method_20_code, (some (.int)), [(0, 10, 13, 13)], [(4, 160), (0, 0), (4, 159)]), (⟨"SlowTunesLaw", "cost", "(LSlowTunes;[J)I"⟩, method_21_code, (some (.int)), [(0, 8, 11, 17)], [(4, 168), (0, 0), (4, 167)]), (⟨"SlowTunesLaw", "costFromEnd", "(LSlowTunes;[J)I"⟩, method_22_code, (some (.int)), [(0, 8, 11, 17)], [(4, 180), (0, 0), (4, 179)]), (⟨"SlowTunesLaw", "costTo", "(LSlowTunes;II[J)I"⟩, method_23_code, (some (.int)), [(0, 10, 13, 13)], [(4, 187), (0, 0), (4, 186)]), (⟨"SlowTunesLaw", "pairs", "(LSlowTunes;[J)I"⟩, method_24_code, (some (.int)), [(0, 8, 11, 17)], [(4, 194), (0, 0), (4, 193)]), (⟨"SlowTunesLaw", "noteOfPair", "(LSlowTunes;II[J)I"⟩, method_25_code, (some (.int)), [(0, 10, 13, 13)], [(4, 201), (0, 0), (4, 200)]), (⟨"SlowTunesLaw", "stretch", "(LSlowTunes;II[J)I"⟩, method_26_code, (some (.int)), [(0, 10, 13, 13)], [(4, 209), (0, 0), (4, 208)]), (⟨"SlowTunesLaw", "longestStretch", "(LSlowTunes;I[J)I"⟩, method_27_code, (some (.int)), [(0, 9, 12, 13)], [(4, 216), (0, 0), (4, 215)]), (⟨"SlowTunesLaw", "partCost", "(LSlowTunes;[J)I"⟩, method_28_code, (some (.int)), [(0, 8, 11, 17)], [(4, 223), (0, 0), (4, 222)]), (⟨"SlowTunesLaw", "partBegin", "(LSlowTunes;[J)I"⟩, method_29_code, (some (.int)), [(0, 8, 11, 17)], [(4, 235), (0, 0), (4, 234)]), (⟨"SlowTunesLaw", "partEnd", "(LSlowTunes;[J)I"⟩, method_30_code, (some (.int)), [(0, 8, 11, 17)], [(5, 2), (0, 0), (5, 1)]), (⟨"SlowTunesLaw", "costWithShift", "(LSlowTunes;I[J)I"⟩, method_31_code, (some (.int)), [(0, 9, 12, 15), (0, 9, 15, 17)], [(5, 9), (0, 0), (5, 8)]), (⟨"SlowTunesLaw", "bestShift", "(LSlowTunes;[J)I"⟩, method_32_code, (some (.int)), [(0, 8, 11, 17)], [(5, 16), (0, 0), (5, 15)]), (⟨"SlowTunesLaw", "costWithBound", "(LSlowTunes;I[J)I"⟩, method_33_code, (some (.int)), [(0, 9, 12, 15)], [(5, 23), (0, 0), (5, 22)]), (⟨"SlowTunesLaw", "law", "([I)Z"⟩, code, (some (.boolean)), [], [])]
def xi0 : xI := (⟨"", "", ""⟩, ⟨#[]⟩, none, [], [])
def xinf (k : Nat) : xI := if 304 ≤ k then xi0 else if k < 160 then (if k < 64 then (if k < 32 then (xil_0.getD (k % 32) xi0) else (xil_1.getD (k % 32) xi0)) else (if k < 96 then (xil_2.getD (k % 32) xi0) else (if k < 128 then (xil_3.getD (k % 32) xi0) else (xil_4.getD (k % 32) xi0)))) else (if k < 224 then (if k < 192 then (xil_5.getD (k % 32) xi0) else (xil_6.getD (k % 32) xi0)) else (if k < 256 then (xil_7.getD (k % 32) xi0) else (if k < 288 then (xil_8.getD (k % 32) xi0) else (xil_9.getD (k % 32) xi0))))
def xpriv : List Jvm.Cond := k2_sels lw_privs
def xNM : Nat := 304
def xsel (q p : Nat) : Option Jvm.Cond := if q = 50 then xpriv[p]? else xw q p
/-- the place of an instruction that is named by its number -/
def xto (L : List xE) (pc t : Nat) (off : Int) : Bool := match L[t]? with
  | some e => decide ((pc : Int) + off = (e.1 : Int))
  | none => false
def xkA (L : List xE) (own : String) (pc : Nat) (i : Instr) (len : Nat) (ax : List Nat) (cv : Value) : Bool := match i with
  | .iconst n => decide (cv = .int (Int32.ofInt n) ∧ len = 1)
  | .bipush n => decide (cv = .int (Int8.ofInt n).toInt32 ∧ len = 2)
  | .sipush n => decide (cv = .int (Int16.ofInt n).toInt32 ∧ len = 3)
  | .lconst n => decide (cv = .long (Int64.ofNat (n : Nat)) ∧ len = 1)
  | .dconst n => (n == 0 && decide (cv = .double FP.dconst0 ∧ len = 1)) || (n == 1 && decide (cv = .double FP.dconst1 ∧ len = 1))
  | .ldc x => decide (len = 2) && (match xw (ax.headD 99) (ax.getD 1 0) with
    | some (.constant o y v) => decide (o = own ∧ y = x ∧ cv = .int v)
    | _ => false)
  | .ldc_w x => decide (len = 3) && (match xw (ax.headD 99) (ax.getD 1 0) with
    | some (.constant o y v) => decide (o = own ∧ y = x ∧ cv = .int v)
    | _ => false)
  | .ldc2_w x => decide (len = 3) && (match xw (ax.headD 99) (ax.getD 1 0) with
    | some (.constantLong o y v) => decide (o = own ∧ y = x ∧ cv = .long v)
    | some (.constantDouble o y v) => decide (o = own ∧ y = x ∧ cv = .double v)
    | _ => false)
  | .iinc _ n => decide (cv = .int (Int32.ofInt n) ∧ len = 3)
  | .iload _ => len == 2
  | .lload _ => len == 2
  | .dload _ => len == 2
  | .aload _ => len == 2
  | .istore _ => len == 2
  | .lstore _ => len == 2
  | .dstore _ => len == 2
  | .astore _ => len == 2
  | .ifCond _ off => len == 3 && xto L pc (ax.headD 0) off
  | .if_icmp _ off => len == 3 && xto L pc (ax.headD 0) off
  | .goto off => len == 3 && xto L pc (ax.headD 0) off
  | .tableswitch d lo hi offs => xto L pc (ax.headD 0) d && decide (offs.size = (hi - lo + 1).toNat) && (List.range offs.size).all (fun q => match offs[q]? with
    | some f => xto L pc (ax.getD (q + 1) 0) f
    | none => false)
  | _ => len == 1
/-- the link of a field, and what it names: class, name, descriptor -/
def xfl (own : String) (x q p : Nat) : Option (Bool × String × String × String) := match xw q p with
  | some (.fieldLink o y r n d) => if o = own ∧ y = x then some (false, r, n, d) else none
  | some (.fieldLinkNest o y r n d _) => if o = own ∧ y = x then some (true, r, n, d) else none
  | _ => none
/-- the field j of the class ci, by a link -/
def xkF (own : String) (x : Nat) (ax : List Nat) : Option Bool := match xfl own x (ax.getD 3 99) (ax.getD 4 0) with
  | some (b, r, n, d) => let T := (xcl (ax.headD 0)).2.1 (ax.getD 1 0)
    if ax.getD 1 0 < (xcl (ax.headD 0)).2.2 ∧ n = T.2.1 ∧ d = T.2.2.1 ∧ (r = T.1 ∨ xw (ax.getD 5 99) (ax.getD 6 0) = some (.sameField r T.1 n d)) then some b else none
  | none => none
def xkT (d : String) (t : Nat) : Bool := match parseFieldDescriptor d, t with
  | some .int, 0 => true
  | some .boolean, 1 => true
  | some .long, 2 => true
  | some (.object _), 3 => true
  | some (.array _), 3 => true
  | _, _ => false
def xkB (L : List xE) (own name : String) (pc : Nat) (i : Instr) (len : Nat) (ax : List Nat) (cv : Value) : Bool := match i with
  | .getstatic x => len == 3 && (match xfl own x (ax.headD 99) (ax.getD 1 0) with
    | some (_, C, n, d) => decide ((C, n, d, cv) ∈ xstL)
    | none => false)
  | .getfield x => len == 3 && (xkF own x ax).isSome
  | .putfield x => len == 3 && decide (ax.headD 0 < 10) && xkT ((xcl (ax.headD 0)).2.1 (ax.getD 1 0)).2.2.1 (ax.getD 2 99) && (match xkF own x ax with
    | some b => let T := (xcl (ax.headD 0)).2.1 (ax.getD 1 0)
      decide (T.2.2.2 = false ∨ (b = false ∧ name = "<init>" ∧ T.1 = own))
    | none => false)
  | .new x => len == 3 && decide (ax.headD 0 < 10 ∧ xw (ax.getD 2 99) (ax.getD 3 0) = some (.classLink own x (xcl (ax.headD 0)).1) ∧ xw (ax.getD 4 99) (ax.getD 5 0) = some (.instantiable (xcl (ax.headD 0)).1 (ax.getD 1 0)) ∧ xw (ax.getD 6 99) (ax.getD 7 0) = some (.initialized (xcl (ax.headD 0)).1))
  | .newarray .int => len == 2 && decide (xw (ax.headD 99) (ax.getD 1 0) = some (.arrayClass .int))
  | .newarray .long => len == 2 && decide (xw (ax.headD 99) (ax.getD 1 0) = some (.arrayClass .long))
  | .anewarray x => len == 3 && decide (xw (ax.headD 99) (ax.getD 1 0) = some (.classLink own x xObj) ∧ xw (ax.getD 2 99) (ax.getD 3 0) = some (.arrayOver (.object xObj)))
  | .checkcast x => len == 3 && decide (ax.headD 0 < 10 ∧ xw (ax.getD 1 99) (ax.getD 2 0) = some (.classLink own x (xcl (ax.headD 0)).1))
  | .if_acmp _ off => len == 3 && xto L pc (ax.headD 0) off
  | .arraylength => len == 1
  | .iaload => len == 1
  | .laload => len == 1
  | .baload => len == 1
  | .aaload => len == 1
  | .iastore => len == 1
  | .lastore => len == 1
  | .aastore => len == 1
  | _ => false
/-- a call: the method that is named, how, and how many values it takes -/
def xkC (own : String) (i : Instr) (ax : List Nat) : Bool := let y := (xinf (ax.headD 0)).1
  decide (ax.headD 0 + 1 < xNM) && (match ax.getD 2 0, i, xw (ax.getD 4 99) (ax.getD 5 0) with
  | 0, .invokevirtual x, some (.methodLink o z w) => decide (o = own ∧ z = x ∧ w = y ∧ (xcl (ax.getD 3 0)).1 = y.cls ∧ (parseMethodDescriptor y.desc).map (fun d => d.parameters.length + 1) = some (ax.getD 1 0) ∧ (xinf (ax.headD 0)).2.2.2.1 = [] ∧ (xinf (ax.headD 0)).2.2.2.2.length = 4)
  | 1, .invokestatic x, some (.methodLink o z w) => decide (o = own ∧ z = x ∧ w = y ∧ (parseMethodDescriptor y.desc).map (fun d => d.parameters.length) = some (ax.getD 1 0) ∧ xw ((xinf (ax.headD 0)).2.2.2.2.getD 2 (99, 0)).1 ((xinf (ax.headD 0)).2.2.2.2.getD 2 (99, 0)).2 = some (.static y))
  | 2, .invokespecial x, some (.methodLink o z w) => decide (o = own ∧ z = x ∧ w = y ∧ y.name = "<init>" ∧ (xinf (ax.headD 0)).2.2.1 = none ∧ (parseMethodDescriptor y.desc).map (fun d => d.parameters.length + 1) = some (ax.getD 1 0) ∧ (xinf (ax.headD 0)).2.2.2.1 = [] ∧ xw ((xinf (ax.headD 0)).2.2.2.2.getD 2 (99, 0)).1 ((xinf (ax.headD 0)).2.2.2.2.getD 2 (99, 0)).2 = some (.instanceMethod y))
  | 3, .invokespecial x, some (.methodLinkNest o z w _) => decide (o = own ∧ z = x ∧ w = y ∧ y.name = "<init>" ∧ (xinf (ax.headD 0)).2.2.1 = none ∧ (parseMethodDescriptor y.desc).map (fun d => d.parameters.length + 1) = some (ax.getD 1 0) ∧ (xinf (ax.headD 0)).2.2.2.1 = [] ∧ xw ((xinf (ax.headD 0)).2.2.2.2.getD 2 (99, 0)).1 ((xinf (ax.headD 0)).2.2.2.2.getD 2 (99, 0)).2 = some (.instanceMethod y))
  | _, _, _ => false)
def xnat (w : Nat) : MethodName := match w with
  | 4 => objectInit
  | 5 => arraycopyName
  | _ => ⟨"java/lang/Double", "doubleToRawLongBits", "(D)J"⟩
def xmth (w : Nat) : MethodName := match w with
  | 0 => Lib.Math.max.name
  | 1 => Lib.Math.min.name
  | _ => Lib.Math.abs.name
def xnms : List String := ["java/lang/RuntimeException", "java/lang/Exception"]
def xic (E : Nat) : Nat := match E with
  | 0 => 236
  | 1 => 161
  | _ => 86
def xstrL : List Nat := [84, 115, 124, 148, 159, 177, 193, 234, 325, 333, 335, 337, 342, 344]
/-- throw new E("text"): five instructions -/
def xkT5 (own : String) (r : List xE) (pc : Nat) (i : Instr) (ax : List Nat) : Bool := match ax, i, r with
  | [E, ik, is, ic, wd, q, p, q2, p2], .new x, (p1, _, .dup, l1, _, _) :: (p2', _, i2, l2, _, _) :: (p3, _, .invokespecial y, l3, _, _) :: (p4, _, .athrow, l4, _, _) :: _ =>
    decide (own = "SlowTunes" ∧ x = ik ∧ y = ic ∧ ic = xic E ∧ E < 3 ∧ is ∈ xstrL ∧ xw q p = some (.classLink own ik (xexn E)) ∧ xw q2 p2 = some (.initialized (xexn E)) ∧ p1 = pc + 3 ∧ p2' = pc + 4 ∧ l1 = 1 ∧ l3 = 3 ∧ l4 = 1) && (match wd, i2 with
      | 0, .ldc z => decide (z = is ∧ p3 = pc + 6 ∧ p4 = pc + 9 ∧ l2 = 2)
      | 1, .ldc_w z => decide (z = is ∧ p3 = pc + 7 ∧ p4 = pc + 10 ∧ l2 = 3)
      | _, _ => false)
  | _, _, _ => false
/-- the words of a throw -/
def xkTh (E : Nat) : Bool := ((Jvm.Cond.classLink "SlowTunes" 0 (xexn E) :: Jvm.Cond.initialized (xexn E) :: vx_atS "SlowTunes" (xic E) (xexn E) xnms).all vx_ot) && ((vx_atS "SlowTunes" (xic E) (xexn E) xnms).all fun w => (goodWord w && decide (w ∈ lw_tbl)) || (match w with
  | .castable _ _ => decide (w ∈ lw_tbl)
  | .declares _ => decide (w ∈ lw_tbl)
  | _ => false)) && Bundle.fit (xexn E) && xnms.all Bundle.fit
def xkE (L : List xE) (y : MethodName) (bytes : ByteArray) (rest : List xE) (e : xE) : Bool := match e with
  | (pc, kd, i, len, ax, cv) => decide (decode bytes pc = .ok (i, len)) && (match rest with
    | [] => true
    | e' :: _ => e'.1 == pc + len) && (match kd with
    | 0 => xkA L y.cls pc i len ax cv
    | 7 => xkB L y.cls y.name pc i len ax cv
    | 1 => len == 3 && xkC y.cls i ax
    | 2 => len == 1
    | 3 => len == 3 && xkT5 y.cls rest pc i ax
    | 4 => len == 3 && (match i, xw (ax.headD 99) (ax.getD 1 0) with
      | .invokespecial x, some (.methodLink o z w) => decide (o = y.cls ∧ z = x ∧ w = xnat 4)
      | _, _ => false)
    | 5 => len == 3 && (match i, xw (ax.headD 99) (ax.getD 1 0) with
      | .invokestatic x, some (.methodLink o z w) => decide (o = y.cls ∧ z = x ∧ w = xnat 5)
      | _, _ => false)
    | 6 => len == 3 && (match i, xw (ax.headD 99) (ax.getD 1 0) with
      | .invokestatic x, some (.methodLink o z w) => decide (o = y.cls ∧ z = x ∧ w = xnat 6)
      | _, _ => false)
    | 8 => len == 3 && (match i, xw (ax.getD 1 99) (ax.getD 2 0) with
      | .invokestatic x, some (.methodLink o z w) => decide (o = y.cls ∧ z = x ∧ w = xmth (ax.headD 9))
      | _, _ => false)
    | 9 => true
    | _ => false)
def xkL (L : List xE) (y : MethodName) (bytes : ByteArray) : List xE → Bool
  | [] => true
  | e :: r => xkE L y bytes r e && xkL L y bytes r
/-- the checks of the places from lo on, n of them -/
def xkJ (L : List xE) (y : MethodName) (bytes : ByteArray) (lo n : Nat) : Bool := (List.range n).all fun i => match L[lo + i]? with
  | some e => xkE L y bytes (L.drop (lo + i + 1)) e
  | none => true
theorem xkJ_use {L : List xE} {y : MethodName} {bytes : ByteArray} {lo n j : Nat} {e : xE} (h : xkJ L y bytes lo n = true) (h1 : lo ≤ j) (h2 : j < lo + n) (he : L[j]? = some e) : xkE L y bytes (L.drop (j + 1)) e = true := by
  have h3 := List.all_eq_true.mp h (j - lo) (List.mem_range.mpr (by omega))
  rw [Nat.add_sub_cancel' h1, he] at h3
  exact h3
theorem xkL_use {L : List xE} {y : MethodName} {bytes : ByteArray} : ∀ (a : List xE), xkL L y bytes a = true → ∀ (j : Nat) (e : xE), a[j]? = some e → xkE L y bytes (a.drop (j + 1)) e = true := by
  intro a
  induction a with
  | nil => intro _ j e h; simp at h
  | cons x r ih =>
    intro h j e he
    rw [xkL, Bool.and_eq_true] at h
    cases j with
    | zero =>
      simp only [List.getElem?_cons_zero, Option.some.injEq] at he
      subst he
      exact h.1
    | succ j =>
      rw [List.getElem?_cons_succ] at he
      exact ih h.2 j e he
def xkR (rk : Nat) (ret : Option FieldType) : Bool := match rk, ret with
  | 0, none => true
  | 1, some .int => true
  | 2, some .boolean => true
  | 3, some .long => true
  | 4, some .double => true
  | 5, some (.object _) => true
  | 5, some (.array _) => true
  | 6, some .byte => true
  | 7, some .char => true
  | _, _ => false
/-- the handlers -/
def xkX (L : List xE) (own : String) : List xX → List (Nat × Nat × Nat × Nat) → Bool
  | [], [] => true
  | (a, b, E, v, t) :: hs, (a', b', h, ct) :: hh => decide (a = a' ∧ b = b' ∧ 0 < t ∧ E < 3 ∧ ct = 13 + 2 * E) && decide (own = "SlowTunesLaw") && (match L[t - 1]? with
    | some (pc, _, .astore w, len, _, _) => decide (pc = h ∧ w = v ∧ len = 2)
    | some (pc, _, .astore_n w, len, _, _) => decide (pc = h ∧ (w : Nat) = v ∧ len = 1)
    | _ => false) && (match L[t]?, L[t - 1]? with
    | some e, some e0 => e.1 == h + e0.2.2.2.1
    | _, _ => false) && xkX L own hs hh
  | _, _ => false
def xkM (g : Nat) : Bool := let y := (xinf g).1
  xkL (xtab g).1 y (xinf g).2.1 (xtab g).1 && decide ((xtab g).2.1 ≤ 18) && xkR (xtab g).2.2.1 (xinf g).2.2.1 && xkX (xtab g).1 y.cls (xtab g).2.2.2 (xinf g).2.2.2.1 && decide ((xinf g).2.2.2.1 = [] ∨ y.cls = "SlowTunesLaw") && decide ((xtab g).1.head?.map (fun e => e.1) = some 0) && (xtab g).2.2.2.all (fun x => decide (x.2.2.2.1 < (xtab g).2.1))
/-- the words of a method that is called -/
def xkW (g : Nat) : Bool := let y := (xinf g).1
  let ps := (xinf g).2.2.2.2
  decide (y.cls ≠ "java/lang/invoke/MethodHandle" ∧ y.cls ≠ "java/lang/invoke/VarHandle") && plainName y.cls &&
  decide (xw (ps.headD (99, 0)).1 (ps.headD (99, 0)).2 = some (if (xinf g).2.2.2.1 = [] then .code y (xinf g).2.1 (xtab g).2.1 (xinf g).2.2.1 else .codeWith y (xinf g).2.1 (xtab g).2.1 (xinf g).2.2.1 (xinf g).2.2.2.1)) &&
  decide (xw (ps.getD 1 (99, 0)).1 (ps.getD 1 (99, 0)).2 = some (.initialized y.cls)) &&
  decide (xw (ps.getD 2 (99, 0)).1 (ps.getD 2 (99, 0)).2 = some (.instanceMethod y) ∨ xw (ps.getD 2 (99, 0)).1 (ps.getD 2 (99, 0)).2 = some (.static y)) &&
  (match ps with
  | [_, _, _, s] => decide (xsel s.1 s.2 = some (.selects y.cls y y) ∧ xw (ps.getD 2 (99, 0)).1 (ps.getD 2 (99, 0)).2 = some (.instanceMethod y))
  | _ => true)
def xkCl (ci : Nat) : Bool := decide (∀ k, k < (xcl ci).2.2 → xw (xlay ci k).1 (xlay ci k).2 = some (u_lay (xcl ci).1 (xcl ci).2.1 k)) && decide (∀ a, a < (xcl ci).2.2 → ∀ b, b < (xcl ci).2.2 → a ≠ b → ((xcl ci).2.1 a).2.1 ≠ ((xcl ci).2.1 b).2.1) && (match xw (xins ci).1 (xins ci).2 with
  | some (.instantiable C n) => decide (C = (xcl ci).1)
  | _ => false) && decide (∀ k, k < (xcl ci).2.2 → (parseFieldDescriptor ((xcl ci).2.1 k).2.2.1).isSome = true ∧ (xdef ci)[k]? = (parseFieldDescriptor ((xcl ci).2.1 k).2.2.1).map defaultValue) && decide ((xdef ci).length = (xcl ci).2.2)
