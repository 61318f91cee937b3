/-! What the lists name, checked against the tables of the claim. -/
def xcl (ci : Nat) : String × u_T × Nat := match ci with
  | 0 => ("java/util/ArrayList", (fun k => match k with
    | 0 => ("java/util/AbstractList", "modCount", "I", false)
    | 1 => ("java/util/ArrayList", "elementData", "[Ljava/lang/Object;", false)
    | _ => ("java/util/ArrayList", "size", "I", false)), 3)
  | 1 => ("SlowTunes$Grid", (fun k => match k with
    | _ => ("SlowTunes$Grid", "cells", "[I", true)), 1)
  | 2 => ("SlowTunes$Grid", (fun k => match k with
    | _ => ("SlowTunes$Grid", "cells", "[I", true)), 1)
  | 3 => ("SlowTunes$Matches", (fun k => match k with
    | 0 => ("SlowTunes$Matches", "fromBegin", "LSlowTunes$Grid;", true)
    | 1 => ("SlowTunes$Matches", "fromEnd", "LSlowTunes$Grid;", true)
    | 2 => ("SlowTunes$Matches", "firstSteps", "LSlowTunes$Grid;", true)
    | 3 => ("SlowTunes$Matches", "counts", "LSlowTunes$Grid;", true)
    | 4 => ("SlowTunes$Matches", "zeroNotes", "[I", true)
    | 5 => ("SlowTunes$Matches", "oneNotes", "[I", true)
    | 6 => ("SlowTunes$Matches", "zeroStretches", "[I", true)
    | 7 => ("SlowTunes$Matches", "oneStretches", "[I", true)
    | 8 => ("SlowTunes$Matches", "length", "I", false)
    | 9 => ("SlowTunes$Matches", "held", "I", false)
    | _ => ("SlowTunes$Matches", "number", "I", false)), 11)
  | 4 => ("SlowTunes$Parts", (fun k => match k with
    | 0 => ("SlowTunes$Parts", "costs", "LSlowTunes$Grid;", true)
    | 1 => ("SlowTunes$Parts", "begins", "LSlowTunes$Grid;", true)
    | 2 => ("SlowTunes$Parts", "least", "I", false)
    | 3 => ("SlowTunes$Parts", "first", "I", false)
    | 4 => ("SlowTunes$Parts", "last", "I", false)
    | 5 => ("SlowTunes$Parts", "leastBefore", "I", false)
    | _ => ("SlowTunes$Parts", "latestBegin", "I", false)), 7)
  | 5 => ("SlowTunes$Reader", (fun k => match k with
    | 0 => ("SlowTunes$Reader", "numbers", "[I", true)
    | 1 => ("SlowTunes$Reader", "numbersLength", "I", false)
    | 2 => ("SlowTunes$Reader", "place", "I", false)
    | 3 => ("SlowTunes$Reader", "word", "LSlowTunes$Word;", false)
    | 4 => ("SlowTunes$Reader", "lettersRead", "I", false)
    | _ => ("SlowTunes$Reader", "tune", "I", false)), 6)
  | 6 => ("SlowTunes$State", (fun k => match k with
    | 0 => ("SlowTunes$State", "zero", "LSlowTunes$Tune;", false)
    | 1 => ("SlowTunes$State", "one", "LSlowTunes$Tune;", false)
    | 2 => ("SlowTunes$State", "farthest", "I", false)
    | 3 => ("SlowTunes$State", "price", "I", false)
    | 4 => ("SlowTunes$State", "teller", "I", false)
    | 5 => ("SlowTunes$State", "stopReason", "I", false)
    | _ => ("SlowTunes$State", "stopPart", "I", false)), 7)
  | 7 => ("SlowTunes$Tune", (fun k => match k with
    | 0 => ("SlowTunes$Tune", "pitches", "[I", true)
    | _ => ("SlowTunes$Tune", "length", "I", false)), 2)
  | 8 => ("SlowTunes", (fun k => match k with
    | 0 => ("SlowTunes", "now", "LSlowTunes$State;", true)
    | 1 => ("SlowTunes", "saved", "Ljava/util/ArrayList;", true)
    | 2 => ("SlowTunes", "kept", "LSlowTunes$State;", true)
    | 3 => ("SlowTunes", "isKept", "Z", false)
    | 4 => ("SlowTunes", "codes", "[I", true)
    | 5 => ("SlowTunes", "codesLength", "I", false)
    | 6 => ("SlowTunes", "reader", "LSlowTunes$Reader;", true)
    | 7 => ("SlowTunes", "matches", "LSlowTunes$Matches;", true)
    | 8 => ("SlowTunes", "matchesAreOld", "Z", false)
    | 9 => ("SlowTunes", "trial", "LSlowTunes$Grid;", true)
    | _ => ("SlowTunes", "parts", "LSlowTunes$Parts;", true)), 11)
  | 9 => ("SlowTunes$Grid", (fun k => match k with
    | _ => ("SlowTunes$Grid", "cells", "[I", true)), 1)
  | 10 => ("SlowTunes$Word", (fun k => match k with
    | 0 => ("SlowTunes$Word", "letters", "Ljava/lang/String;", true)
    | 1 => ("SlowTunes$Word", "hasTune", "Z", true)
    | 2 => ("SlowTunes$Word", "hasNumber", "Z", true)
    | 3 => ("SlowTunes$Word", "leastNumber", "I", true)
    | _ => ("SlowTunes$Word", "mostNumber", "I", true)), 5)
  | 11 => ("java/lang/String", (fun k => match k with
    | 0 => ("java/lang/String", "value", "[B", true)
    | _ => ("java/lang/String", "coder", "B", true)), 2)
  | _ => ("", (fun _ => ("", "", "", true)), 0)
/-- where the words of a class's fields stand -/
def xlay (ci k : Nat) : Nat × Nat := match ci with
  | 0 => ([(0, 121), (0, 117), (0, 119)] : List (Nat × Nat)).getD k (99, 99)
  | 1 => ([(0, 164)] : List (Nat × Nat)).getD k (99, 99)
  | 2 => ([(0, 164)] : List (Nat × Nat)).getD k (99, 99)
  | 3 => ([(0, 180), (0, 182), (0, 184), (0, 186), (0, 188), (0, 190), (0, 192), (0, 194), (0, 196), (0, 198), (0, 200)] : List (Nat × Nat)).getD k (99, 99)
  | 4 => ([(0, 224), (0, 226), (0, 228), (0, 230), (0, 232), (0, 234), (0, 236)] : List (Nat × Nat)).getD k (99, 99)
  | 5 => ([(0, 138), (0, 140), (0, 142), (0, 144), (0, 146), (0, 148)] : List (Nat × Nat)).getD k (99, 99)
  | 6 => ([(0, 83), (0, 85), (0, 87), (0, 89), (0, 91), (0, 93), (0, 95)] : List (Nat × Nat)).getD k (99, 99)
  | 7 => ([(0, 52), (0, 54)] : List (Nat × Nat)).getD k (99, 99)
  | 8 => ([(1, 10), (1, 12), (1, 14), (1, 16), (1, 18), (1, 20), (1, 22), (1, 24), (1, 26), (1, 28), (1, 30)] : List (Nat × Nat)).getD k (99, 99)
  | 9 => ([(0, 164)] : List (Nat × Nat)).getD k (99, 99)
  | _ => (99, 99)
def xins (ci : Nat) : Nat × Nat := match ci with
  | 0 => (0, 99)
  | 1 => (0, 158)
  | 2 => (0, 158)
  | 3 => (0, 152)
  | 4 => (0, 206)
  | 5 => (0, 125)
  | 6 => (0, 34)
  | 7 => (0, 40)
  | 8 => (0, 26)
  | 9 => (0, 158)
  | _ => (99, 99)
def xtb (q : Nat) : List Jvm.Cond := match q with
  | 0 => tables_1_1
  | 1 => tables_1_2
  | 2 => tables_1_3
  | 3 => tables_1_4
  | _ => []
def xw (q p : Nat) : Option Jvm.Cond := (xtb q)[p]?
theorem xtb_in {q p : Nat} {w : Jvm.Cond} (h : xw q p = some w) : w ∈ tables_1 := by
  have hm : w ∈ xtb q := List.mem_of_getElem? h
  unfold tables_1
  unfold xtb at hm
  split at hm <;> first | (exact absurd hm List.not_mem_nil) | simp only [List.mem_append, hm, true_or, or_true]
/-- the static fields that are read: what they hold -/
def xstL : List (String × String × String × Value) := [("SlowTunes$Word", "SING", "LSlowTunes$Word;", .ref 0), ("java/util/ArrayList", "DEFAULTCAPACITY_EMPTY_ELEMENTDATA", "[Ljava/lang/Object;", .ref 26)]
def xexn (E : Nat) : String := match E with
  | 0 => "java/lang/IndexOutOfBoundsException"
  | 1 => "java/lang/IllegalArgumentException"
  | 2 => "java/lang/IllegalStateException"
  | _ => ""
abbrev xI : Type := MethodName × ByteArray × Option FieldType × List (Nat × Nat × Nat × Nat) × List (Nat × Nat)
def xil_0 : List xI := [(⟨"SlowTunes$Grid", "<init>", "()V"⟩, prog_2_method_1_code, none, [], [(0, 161), (0, 11), (0, 160)]), (⟨"SlowTunes$Grid", "at", "(II)I"⟩, prog_2_method_2_code, (some (.int)), [], [(2, 10), (0, 11), (2, 8), (2, 9)]), (⟨"SlowTunes$Grid", "put", "(III)V"⟩, prog_2_method_3_code, none, [], [(2, 18), (0, 11), (2, 16), (2, 17)]), (⟨"SlowTunes$Grid", "clear", "()V"⟩, prog_2_method_4_code, none, [], [(1, 228), (0, 11), (1, 226), (1, 227)]), (⟨"SlowTunes$Grid", "tellFromBegin", "(LSlowTunes$State;II)V"⟩, prog_2_method_5_code, none, [], [(1, 224), (0, 11), (1, 222), (1, 223)]), (⟨"SlowTunes$Grid", "tellRowFromBegin", "(LSlowTunes$State;III)V"⟩, prog_2_method_6_code, none, [], [(1, 236), (0, 11), (1, 235), (50, 4)]), (⟨"SlowTunes$Grid", "tellFromEnd", "(LSlowTunes$State;)V"⟩, prog_2_method_7_code, none, [], [(2, 22), (0, 11), (2, 20), (2, 21)]), (⟨"SlowTunes$Grid", "tellRowFromEnd", "(LSlowTunes$State;I)V"⟩, prog_2_method_8_code, none, [], [(2, 26), (0, 11), (2, 25), (50, 5)]), (⟨"SlowTunes$Matches", "<init>", "()V"⟩, prog_4_method_1_code, none, [], [(0, 155), (0, 10), (0, 154)]), (⟨"SlowTunes$Matches", "find", "(LSlowTunes$State;)V"⟩, prog_4_method_2_code, none, [], [(1, 220), (0, 10), (1, 218), (1, 219)]), (⟨"SlowTunes$Matches", "leastTo", "(II)I"⟩, prog_4_method_3_code, (some (.int)), [], [(3, 96), (0, 10), (3, 94), (3, 95)]), (⟨"SlowTunes$Matches", "leastFromBegin", "(LSlowTunes$State;)I"⟩, prog_4_method_4_code, (some (.int)), [], [(2, 117), (0, 10), (2, 115), (2, 116)]), (⟨"SlowTunes$Matches", "leastFromEnd", "()I"⟩, prog_4_method_5_code, (some (.int)), [], [(3, 148), (0, 10), (3, 146), (3, 147)]), (⟨"SlowTunes$Matches", "noteOf", "(II)I"⟩, prog_4_method_6_code, (some (.int)), [], [(3, 122), (0, 10), (3, 120), (3, 121)]), (⟨"SlowTunes$Matches", "stretchOf", "(II)I"⟩, prog_4_method_7_code, (some (.int)), [], [(3, 130), (0, 10), (3, 128), (3, 129)]), (⟨"SlowTunes$Matches", "greatestStretch", "(I)I"⟩, prog_4_method_8_code, (some (.int)), [], [(3, 138), (0, 10), (3, 136), (3, 137)]), (⟨"SlowTunes$Matches", "shareOfBoth", "()D"⟩, prog_4_method_9_code, (some (.double)), [], [(3, 109), (0, 10), (3, 107), (3, 108)]), (⟨"SlowTunes$Matches", "tellSteps", "(LSlowTunes$State;)V"⟩, prog_4_method_10_code, none, [], [(2, 40), (0, 10), (2, 39), (50, 6)]), (⟨"SlowTunes$Matches", "isBestStep", "(LSlowTunes$State;III)Z"⟩, prog_4_method_11_code, (some (.boolean)), [], [(2, 45), (0, 10), (2, 44), (50, 7)]), (⟨"SlowTunes$Matches", "firstAfter", "(II)I"⟩, prog_4_method_12_code, (some (.int)), [], [(2, 48), (0, 10), (2, 47)]), (⟨"SlowTunes$Matches", "secondAfter", "(II)I"⟩, prog_4_method_13_code, (some (.int)), [], [(2, 51), (0, 10), (2, 50)]), (⟨"SlowTunes$Matches", "walkFirst", "(LSlowTunes$State;)V"⟩, prog_4_method_14_code, none, [], [(2, 61), (0, 10), (2, 60), (50, 8)]), (⟨"SlowTunes$Matches", "addPair", "(II)V"⟩, prog_4_method_15_code, none, [], [(2, 67), (0, 10), (2, 66), (50, 9)]), (⟨"SlowTunes$Parts", "<init>", "()V"⟩, prog_5_method_1_code, none, [], [(0, 209), (0, 12), (0, 208)]), (⟨"SlowTunes$Parts", "find", "(LSlowTunes$State;)V"⟩, prog_5_method_2_code, none, [], [(3, 57), (0, 12), (3, 55), (3, 56)]), (⟨"SlowTunes$Parts", "tellCell", "(LSlowTunes$State;II)V"⟩, prog_5_method_3_code, none, [], [(3, 61), (0, 12), (3, 60), (50, 19)]), (⟨"SlowTunes$Parts", "consider", "(II)V"⟩, prog_5_method_4_code, none, [], [(3, 65), (0, 12), (3, 64), (50, 20)]), (⟨"SlowTunes$Parts", "choose", "(II)V"⟩, prog_5_method_5_code, none, [], [(3, 72), (0, 12), (3, 71), (50, 21)]), (⟨"SlowTunes$Reader", "<init>", "()V"⟩, prog_6_method_1_code, none, [], [(0, 128), (0, 7), (0, 127)]), (⟨"SlowTunes$State", "<init>", "()V"⟩, prog_7_method_1_code, none, [], [(0, 37), (0, 2), (0, 36)]), (⟨"SlowTunes$State", "copyFrom", "(LSlowTunes$State;)V"⟩, prog_7_method_2_code, none, [], [(1, 137), (0, 2), (1, 135), (1, 136)]), (⟨"SlowTunes$State", "tuneOf", "(I)LSlowTunes$Tune;"⟩, prog_7_method_3_code, (some (.object "SlowTunes$Tune")), [], [(1, 177), (0, 2), (1, 175), (1, 176)])]
def xil_1 : List xI := [(⟨"SlowTunes$State", "swapTunes", "()V"⟩, prog_7_method_4_code, none, [], [(3, 29), (0, 2), (3, 27), (3, 28)]), (⟨"SlowTunes$State", "lengthsApart", "()I"⟩, prog_7_method_6_code, (some (.int)), [], [(1, 205), (0, 2), (1, 203), (1, 204)]), (⟨"SlowTunes$State", "hasEmptyTune", "()Z"⟩, prog_7_method_7_code, (some (.boolean)), [], [(1, 201), (0, 2), (1, 199), (1, 200)]), (⟨"SlowTunes$State", "hasMatch", "()Z"⟩, prog_7_method_8_code, (some (.boolean)), [], [(1, 197), (0, 2), (1, 195), (1, 196)]), (⟨"SlowTunes$State", "isLastPair", "(II)Z"⟩, prog_7_method_9_code, (some (.boolean)), [], [(2, 30), (0, 2), (2, 28), (2, 29)]), (⟨"SlowTunes$State", "difference", "(II)I"⟩, prog_7_method_10_code, (some (.int)), [], [(2, 34), (0, 2), (2, 32), (2, 33)]), (⟨"SlowTunes$State", "judged", "(I)I"⟩, prog_7_method_11_code, (some (.int)), [], [(2, 14), (0, 2), (2, 12), (2, 13)]), (⟨"SlowTunes$Tune", "<init>", "()V"⟩, prog_8_method_1_code, none, [], [(0, 43), (0, 3), (0, 42)]), (⟨"SlowTunes$Tune", "copyFrom", "(LSlowTunes$Tune;)V"⟩, prog_8_method_2_code, none, [], [(1, 141), (0, 3), (1, 139), (1, 140)]), (⟨"SlowTunes$Tune", "hasNote", "(I)Z"⟩, prog_8_method_3_code, (some (.boolean)), [], [(2, 102), (0, 3), (2, 100), (2, 101)]), (⟨"SlowTunes$Tune", "pitchOf", "(I)I"⟩, prog_8_method_4_code, (some (.int)), [], [(2, 0), (0, 3), (1, 238), (1, 239)]), (⟨"SlowTunes$Tune", "put", "(II)V"⟩, prog_8_method_5_code, none, [], [(2, 226), (0, 3), (2, 224), (2, 225)]), (⟨"SlowTunes$Tune", "add", "(I)V"⟩, prog_8_method_6_code, none, [], [(2, 222), (0, 3), (2, 220), (2, 221)]), (⟨"SlowTunes$Tune", "takeOut", "(I)V"⟩, prog_8_method_7_code, none, [], [(2, 239), (0, 3), (2, 237), (2, 238)]), (⟨"SlowTunes$Tune", "canDouble", "()Z"⟩, prog_8_method_10_code, (some (.boolean)), [], [(3, 8), (0, 3), (3, 6), (3, 7)]), (⟨"SlowTunes$Tune", "doubleNotes", "()V"⟩, prog_8_method_11_code, none, [], [(3, 13), (0, 3), (3, 11), (3, 12)]), (⟨"SlowTunes$Tune", "turnRound", "()V"⟩, prog_8_method_12_code, none, [], [(3, 21), (0, 3), (3, 19), (3, 20)]), (⟨"SlowTunes", "<init>", "()V"⟩, prog_1_method_1_code, none, [], [(0, 29), (0, 1), (0, 28)]), (⟨"SlowTunes", "addNote", "(II)I"⟩, prog_1_method_2_code, (some (.int)), [], [(2, 141), (0, 1), (2, 139), (2, 140)]), (⟨"SlowTunes", "setNote", "(III)I"⟩, prog_1_method_3_code, (some (.int)), [], [(2, 230), (0, 1), (2, 228), (2, 229)]), (⟨"SlowTunes", "dropNote", "(II)I"⟩, prog_1_method_4_code, (some (.int)), [], [(2, 235), (0, 1), (2, 233), (2, 234)]), (⟨"SlowTunes", "slow", "(I)I"⟩, prog_1_method_6_code, (some (.int)), [], [(3, 4), (0, 1), (3, 2), (3, 3)]), (⟨"SlowTunes", "flip", "(I)I"⟩, prog_1_method_7_code, (some (.int)), [], [(3, 17), (0, 1), (3, 15), (3, 16)]), (⟨"SlowTunes", "exchange", "()I"⟩, prog_1_method_8_code, (some (.int)), [], [(3, 25), (0, 1), (3, 23), (3, 24)]), (⟨"SlowTunes", "setBound", "(I)I"⟩, prog_1_method_9_code, (some (.int)), [], [(3, 33), (0, 1), (3, 31), (3, 32)]), (⟨"SlowTunes", "setHold", "(I)I"⟩, prog_1_method_10_code, (some (.int)), [], [(3, 37), (0, 1), (3, 35), (3, 36)]), (⟨"SlowTunes", "setJudge", "(I)I"⟩, prog_1_method_11_code, (some (.int)), [], [(3, 41), (0, 1), (3, 39), (3, 40)]), (⟨"SlowTunes", "hasStopped", "()Z"⟩, prog_1_method_16_code, (some (.boolean)), [], [(1, 36), (0, 1), (1, 34), (1, 35)]), (⟨"SlowTunes", "stoppedPart", "()I"⟩, prog_1_method_17_code, (some (.int)), [], [(2, 121), (0, 1), (2, 119), (2, 120)]), (⟨"SlowTunes", "whyStopped", "()I"⟩, prog_1_method_18_code, (some (.int)), [], [(2, 130), (0, 1), (2, 128), (2, 129)]), (⟨"SlowTunes", "undo", "()I"⟩, prog_1_method_19_code, (some (.int)), [], [(1, 40), (0, 1), (1, 38), (1, 39)]), (⟨"SlowTunes", "savedStates", "()I"⟩, prog_1_method_22_code, (some (.int)), [], [(1, 146), (0, 1), (1, 144), (1, 145)])]
def xil_2 : List xI := [(⟨"SlowTunes", "notes", "(I)I"⟩, prog_1_method_23_code, (some (.int)), [], [(1, 150), (0, 1), (1, 148), (1, 149)]), (⟨"SlowTunes", "pitch", "(II)I"⟩, prog_1_method_24_code, (some (.int)), [], [(2, 95), (0, 1), (2, 93), (2, 94)]), (⟨"SlowTunes", "bound", "()I"⟩, prog_1_method_25_code, (some (.int)), [], [(1, 181), (0, 1), (1, 179), (1, 180)]), (⟨"SlowTunes", "hold", "()I"⟩, prog_1_method_26_code, (some (.int)), [], [(1, 185), (0, 1), (1, 183), (1, 184)]), (⟨"SlowTunes", "judge", "()I"⟩, prog_1_method_27_code, (some (.int)), [], [(1, 189), (0, 1), (1, 187), (1, 188)]), (⟨"SlowTunes", "unlike", "(II)I"⟩, prog_1_method_28_code, (some (.int)), [], [(3, 100), (0, 1), (3, 98), (3, 99)]), (⟨"SlowTunes", "isMatched", "()Z"⟩, prog_1_method_30_code, (some (.boolean)), [], [(1, 193), (0, 1), (1, 191), (1, 192)]), (⟨"SlowTunes", "cost", "()I"⟩, prog_1_method_31_code, (some (.int)), [], [(2, 108), (0, 1), (2, 106), (2, 107)]), (⟨"SlowTunes", "costFromEnd", "()I"⟩, prog_1_method_32_code, (some (.int)), [], [(3, 144), (0, 1), (3, 142), (3, 143)]), (⟨"SlowTunes", "costTo", "(II)I"⟩, prog_1_method_33_code, (some (.int)), [], [(3, 92), (0, 1), (3, 90), (3, 91)]), (⟨"SlowTunes", "pairs", "()I"⟩, prog_1_method_34_code, (some (.int)), [], [(3, 113), (0, 1), (3, 111), (3, 112)]), (⟨"SlowTunes", "noteOfPair", "(II)I"⟩, prog_1_method_35_code, (some (.int)), [], [(3, 117), (0, 1), (3, 115), (3, 116)]), (⟨"SlowTunes", "stretch", "(II)I"⟩, prog_1_method_36_code, (some (.int)), [], [(3, 126), (0, 1), (3, 124), (3, 125)]), (⟨"SlowTunes", "longestStretch", "(I)I"⟩, prog_1_method_37_code, (some (.int)), [], [(3, 134), (0, 1), (3, 132), (3, 133)]), (⟨"SlowTunes", "bestMatches", "()I"⟩, prog_1_method_39_code, (some (.int)), [], [(1, 212), (0, 1), (1, 210), (1, 211)]), (⟨"SlowTunes", "partCost", "()I"⟩, prog_1_method_40_code, (some (.int)), [], [(3, 80), (0, 1), (3, 78), (3, 79)]), (⟨"SlowTunes", "partBegin", "()I"⟩, prog_1_method_41_code, (some (.int)), [], [(3, 48), (0, 1), (3, 46), (3, 47)]), (⟨"SlowTunes", "partEnd", "()I"⟩, prog_1_method_42_code, (some (.int)), [], [(3, 76), (0, 1), (3, 74), (3, 75)]), (⟨"SlowTunes", "costWithShift", "(I)I"⟩, prog_1_method_43_code, (some (.int)), [], [(3, 161), (0, 1), (3, 159), (3, 160)]), (⟨"SlowTunes", "bestShift", "()I"⟩, prog_1_method_44_code, (some (.int)), [], [(3, 153), (0, 1), (3, 151), (3, 152)]), (⟨"SlowTunes", "costWithBound", "(I)I"⟩, prog_1_method_45_code, (some (.int)), [], [(3, 84), (0, 1), (3, 82), (3, 83)]), (⟨"SlowTunes", "neededBound", "()I"⟩, prog_1_method_46_code, (some (.int)), [], [(2, 71), (0, 1), (2, 69), (2, 70)]), (⟨"SlowTunes", "evenShare", "()D"⟩, prog_1_method_47_code, (some (.double)), [], [(3, 105), (0, 1), (3, 103), (3, 104)]), (⟨"SlowTunes", "checkTune", "(I)V"⟩, prog_1_method_49_code, none, [], [(1, 157), (0, 1), (1, 156)]), (⟨"SlowTunes", "tuneAt", "(I)LSlowTunes$Tune;"⟩, prog_1_method_50_code, (some (.object "SlowTunes$Tune")), [], [(1, 154), (0, 1), (1, 153), (50, 2)]), (⟨"SlowTunes", "checkNote", "(LSlowTunes$Tune;I)V"⟩, prog_1_method_51_code, none, [], [(2, 98), (0, 1), (2, 97)]), (⟨"SlowTunes", "checkRange", "(III)V"⟩, prog_1_method_52_code, none, [], [(2, 144), (0, 1), (2, 143)]), (⟨"SlowTunes", "checkMatched", "()V"⟩, prog_1_method_53_code, none, [], [(2, 112), (0, 1), (2, 111), (50, 12)]), (⟨"SlowTunes", "checkNoneEmpty", "()V"⟩, prog_1_method_54_code, none, [], [(3, 52), (0, 1), (3, 51), (50, 18)]), (⟨"SlowTunes", "checkStopped", "()V"⟩, prog_1_method_55_code, none, [], [(2, 125), (0, 1), (2, 124), (50, 13)]), (⟨"SlowTunes", "saveState", "()V"⟩, prog_1_method_56_code, none, [], [(2, 165), (0, 1), (2, 164), (50, 14)]), (⟨"SlowTunes", "found", "()LSlowTunes$Matches;"⟩, prog_1_method_57_code, (some (.object "SlowTunes$Matches")), [], [(1, 216), (0, 1), (1, 215), (50, 3)])]
def xil_3 : List xI := [(⟨"SlowTunes", "orNothing", "(I)I"⟩, prog_1_method_58_code, (some (.int)), [], [(3, 87), (0, 1), (3, 86)]), (⟨"SlowTunes", "costIf", "(II)I"⟩, prog_1_method_59_code, (some (.int)), [], [(2, 80), (0, 1), (2, 79), (50, 11)]), (⟨"SlowTunes", "nearestBestShift", "()I"⟩, prog_1_method_60_code, (some (.int)), [], [(3, 157), (0, 1), (3, 156), (50, 22)]), (⟨"SlowTunes", "leastNeededBound", "()I"⟩, prog_1_method_61_code, (some (.int)), [], [(2, 75), (0, 1), (2, 74), (50, 10)]), (⟨"java/util/AbstractCollection", "<init>", "()V"⟩, prog_25_method_1_code, none, [], [(0, 108), (0, 4), (0, 107)]), (⟨"java/util/AbstractList", "<init>", "()V"⟩, prog_26_method_1_code, none, [], [(0, 105), (0, 5), (0, 104)]), (⟨"java/util/ArrayList", "<init>", "()V"⟩, prog_27_method_2_code, none, [], [(0, 102), (0, 6), (0, 101)]), (⟨"java/util/ArrayList", "grow", "(I)[Ljava/lang/Object;"⟩, prog_27_method_6_code, (some (.array (.object "java/lang/Object"))), [], [(2, 181), (0, 6), (2, 180), (50, 17)]), (⟨"java/util/ArrayList", "grow", "()[Ljava/lang/Object;"⟩, prog_27_method_7_code, (some (.array (.object "java/lang/Object"))), [], [(2, 177), (0, 6), (2, 176), (50, 16)]), (⟨"java/util/ArrayList", "size", "()I"⟩, prog_27_method_8_code, (some (.int)), [], [(1, 116), (0, 6), (1, 114), (1, 115)]), (⟨"java/util/ArrayList", "isEmpty", "()Z"⟩, prog_27_method_9_code, (some (.boolean)), [], [(1, 44), (0, 6), (1, 42), (1, 43)]), (⟨"java/util/ArrayList", "add", "(Ljava/lang/Object;[Ljava/lang/Object;I)V"⟩, prog_27_method_24_code, none, [], [(2, 173), (0, 6), (2, 172), (50, 15)]), (⟨"java/util/ArrayList", "add", "(Ljava/lang/Object;)Z"⟩, prog_27_method_25_code, (some (.boolean)), [], [(2, 169), (0, 6), (2, 167), (2, 168)]), (⟨"java/util/ArrayList", "remove", "(I)Ljava/lang/Object;"⟩, prog_27_method_29_code, (some (.object "java/lang/Object")), [], [(1, 120), (0, 6), (1, 118), (1, 119)]), (⟨"java/util/ArrayList", "fastRemove", "([Ljava/lang/Object;I)V"⟩, prog_27_method_39_code, none, [], [(1, 130), (0, 6), (1, 129), (50, 1)]), (⟨"java/util/Arrays", "fill", "([II)V"⟩, prog_28_method_103_code, none, [], [(1, 232), (0, 18), (1, 231)]), (⟨"java/util/Objects", "checkIndex", "(II)I"⟩, prog_31_method_17_code, (some (.int)), [], [(1, 123), (0, 21), (1, 122)]), (⟨"jdk/internal/util/Preconditions", "checkIndex", "(IILjava/util/function/BiFunction;)I"⟩, prog_35_method_11_code, (some (.int)), [], [(1, 126), (0, 22), (1, 125)]), (⟨"SlowTunesLaw", "cell", "([II)I"⟩, method_2_code, (some (.int)), [], [(2, 86), (0, 0), (2, 85)]), (⟨"SlowTunesLaw", "low", "(II)I"⟩, method_3_code, (some (.int)), [], [(2, 136), (0, 0), (2, 135)]), (⟨"SlowTunesLaw", "told", "(LSlowTunes;)J"⟩, method_4_code, (some (.long)), [], [(2, 89), (0, 0), (2, 88)]), (⟨"SlowTunesLaw", "act", "(LSlowTunes;II)Z"⟩, method_5_code, (some (.boolean)), [], [(2, 133), (0, 0), (2, 132)]), (⟨"SlowTunesLaw", "holds", "(LSlowTunes;I)Z"⟩, method_6_code, (some (.boolean)), [], [(3, 44), (0, 0), (3, 43)]), (⟨"SlowTunesLaw", "law", "([I)Z"⟩, code, (some (.boolean)), [], [])]
def xi0 : xI := (⟨"", "", ""⟩, ⟨#[]⟩, none, [], [])
def xinf (k : Nat) : xI := if 120 ≤ k then xi0 else if k < 64 then (if k < 32 then (xil_0.getD (k % 32) xi0) else (xil_1.getD (k % 32) xi0)) else (if k < 96 then (xil_2.getD (k % 32) xi0) else (xil_3.getD (k % 32) xi0))
def xpriv : List Jvm.Cond := k2_sels lw_privs
def xNM : Nat := 120
def xsel (q p : Nat) : Option Jvm.Cond := if q = 50 then xpriv[p]? else xw q p
/-- the place of an instruction that is named by its number -/
def xto (L : List xE) (pc t : Nat) (off : Int) : Bool := match L[t]? with
  | some e => decide ((pc : Int) + off = (e.1 : Int))
  | none => false
def xkA (L : List xE) (own : String) (pc : Nat) (i : Instr) (len : Nat) (ax : List Nat) (cv : Value) : Bool := match i with
  | .iconst n => decide (cv = .int (Int32.ofInt n) ∧ len = 1)
  | .bipush n => decide (cv = .int (Int8.ofInt n).toInt32 ∧ len = 2)
  | .sipush n => decide (cv = .int (Int16.ofInt n).toInt32 ∧ len = 3)
  | .lconst n => decide (cv = .long (Int64.ofNat (n : Nat)) ∧ len = 1)
  | .dconst n => (n == 0 && decide (cv = .double FP.dconst0 ∧ len = 1)) || (n == 1 && decide (cv = .double FP.dconst1 ∧ len = 1))
  | .ldc x => decide (len = 2) && (match xw (ax.headD 99) (ax.getD 1 0) with
    | some (.constant o y v) => decide (o = own ∧ y = x ∧ cv = .int v)
    | _ => false)
  | .ldc_w x => decide (len = 3) && (match xw (ax.headD 99) (ax.getD 1 0) with
    | some (.constant o y v) => decide (o = own ∧ y = x ∧ cv = .int v)
    | _ => false)
  | .ldc2_w x => decide (len = 3) && (match xw (ax.headD 99) (ax.getD 1 0) with
    | some (.constantLong o y v) => decide (o = own ∧ y = x ∧ cv = .long v)
    | some (.constantDouble o y v) => decide (o = own ∧ y = x ∧ cv = .double v)
    | _ => false)
  | .iinc _ n => decide (cv = .int (Int32.ofInt n) ∧ len = 3)
  | .iload _ => len == 2
  | .lload _ => len == 2
  | .dload _ => len == 2
  | .aload _ => len == 2
  | .istore _ => len == 2
  | .lstore _ => len == 2
  | .dstore _ => len == 2
  | .astore _ => len == 2
  | .ifCond _ off => len == 3 && xto L pc (ax.headD 0) off
  | .if_icmp _ off => len == 3 && xto L pc (ax.headD 0) off
  | .goto off => len == 3 && xto L pc (ax.headD 0) off
  | .tableswitch d lo hi offs => xto L pc (ax.headD 0) d && decide (offs.size = (hi - lo + 1).toNat) && (List.range offs.size).all (fun q => match offs[q]? with
    | some f => xto L pc (ax.getD (q + 1) 0) f
    | none => false)
  | _ => len == 1
/-- the link of a field, and what it names: class, name, descriptor -/
def xfl (own : String) (x q p : Nat) : Option (Bool × String × String × String) := match xw q p with
  | some (.fieldLink o y r n d) => if o = own ∧ y = x then some (false, r, n, d) else none
  | some (.fieldLinkNest o y r n d _) => if o = own ∧ y = x then some (true, r, n, d) else none
  | _ => none
/-- the field j of the class ci, by a link -/
def xkF (own : String) (x : Nat) (ax : List Nat) : Option Bool := match xfl own x (ax.getD 3 99) (ax.getD 4 0) with
  | some (b, r, n, d) => let T := (xcl (ax.headD 0)).2.1 (ax.getD 1 0)
    if ax.getD 1 0 < (xcl (ax.headD 0)).2.2 ∧ n = T.2.1 ∧ d = T.2.2.1 ∧ (r = T.1 ∨ xw (ax.getD 5 99) (ax.getD 6 0) = some (.sameField r T.1 n d)) then some b else none
  | none => none
def xkT (d : String) (t : Nat) : Bool := match parseFieldDescriptor d, t with
  | some .int, 0 => true
  | some .boolean, 1 => true
  | some .long, 2 => true
  | some (.object _), 3 => true
  | some (.array _), 3 => true
  | _, _ => false
def xkB (L : List xE) (own name : String) (pc : Nat) (i : Instr) (len : Nat) (ax : List Nat) (cv : Value) : Bool := match i with
  | .getstatic x => len == 3 && (match xfl own x (ax.headD 99) (ax.getD 1 0) with
    | some (_, C, n, d) => decide ((C, n, d, cv) ∈ xstL)
    | none => false)
  | .getfield x => len == 3 && (xkF own x ax).isSome
  | .putfield x => len == 3 && decide (ax.headD 0 < 10) && xkT ((xcl (ax.headD 0)).2.1 (ax.getD 1 0)).2.2.1 (ax.getD 2 99) && (match xkF own x ax with
    | some b => let T := (xcl (ax.headD 0)).2.1 (ax.getD 1 0)
      decide (T.2.2.2 = false ∨ (b = false ∧ name = "<init>" ∧ T.1 = own))
    | none => false)
  | .new x => len == 3 && decide (ax.headD 0 < 10 ∧ xw (ax.getD 2 99) (ax.getD 3 0) = some (.classLink own x (xcl (ax.headD 0)).1) ∧ xw (ax.getD 4 99) (ax.getD 5 0) = some (.instantiable (xcl (ax.headD 0)).1 (ax.getD 1 0)) ∧ xw (ax.getD 6 99) (ax.getD 7 0) = some (.initialized (xcl (ax.headD 0)).1))
  | .newarray .int => len == 2 && decide (xw (ax.headD 99) (ax.getD 1 0) = some (.arrayClass .int))
  | .newarray .long => len == 2 && decide (xw (ax.headD 99) (ax.getD 1 0) = some (.arrayClass .long))
  | .anewarray x => len == 3 && decide (xw (ax.headD 99) (ax.getD 1 0) = some (.classLink own x xObj) ∧ xw (ax.getD 2 99) (ax.getD 3 0) = some (.arrayOver (.object xObj)))
  | .checkcast x => len == 3 && decide (ax.headD 0 < 10 ∧ xw (ax.getD 1 99) (ax.getD 2 0) = some (.classLink own x (xcl (ax.headD 0)).1))
  | .if_acmp _ off => len == 3 && xto L pc (ax.headD 0) off
  | .arraylength => len == 1
  | .iaload => len == 1
  | .laload => len == 1
  | .baload => len == 1
  | .aaload => len == 1
  | .iastore => len == 1
  | .lastore => len == 1
  | .aastore => len == 1
  | _ => false
/-- a call: the method that is named, how, and how many values it takes -/
def xkC (own : String) (i : Instr) (ax : List Nat) : Bool := let y := (xinf (ax.headD 0)).1
  decide (ax.headD 0 + 1 < xNM) && (match ax.getD 2 0, i, xw (ax.getD 4 99) (ax.getD 5 0) with
  | 0, .invokevirtual x, some (.methodLink o z w) => decide (o = own ∧ z = x ∧ w = y ∧ (xcl (ax.getD 3 0)).1 = y.cls ∧ (parseMethodDescriptor y.desc).map (fun d => d.parameters.length + 1) = some (ax.getD 1 0) ∧ (xinf (ax.headD 0)).2.2.2.1 = [] ∧ (xinf (ax.headD 0)).2.2.2.2.length = 4)
  | 1, .invokestatic x, some (.methodLink o z w) => decide (o = own ∧ z = x ∧ w = y ∧ (parseMethodDescriptor y.desc).map (fun d => d.parameters.length) = some (ax.getD 1 0) ∧ xw ((xinf (ax.headD 0)).2.2.2.2.getD 2 (99, 0)).1 ((xinf (ax.headD 0)).2.2.2.2.getD 2 (99, 0)).2 = some (.static y))
  | 2, .invokespecial x, some (.methodLink o z w) => decide (o = own ∧ z = x ∧ w = y ∧ y.name = "<init>" ∧ (xinf (ax.headD 0)).2.2.1 = none ∧ (parseMethodDescriptor y.desc).map (fun d => d.parameters.length + 1) = some (ax.getD 1 0) ∧ (xinf (ax.headD 0)).2.2.2.1 = [] ∧ xw ((xinf (ax.headD 0)).2.2.2.2.getD 2 (99, 0)).1 ((xinf (ax.headD 0)).2.2.2.2.getD 2 (99, 0)).2 = some (.instanceMethod y))
  | 3, .invokespecial x, some (.methodLinkNest o z w _) => decide (o = own ∧ z = x ∧ w = y ∧ y.name = "<init>" ∧ (xinf (ax.headD 0)).2.2.1 = none ∧ (parseMethodDescriptor y.desc).map (fun d => d.parameters.length + 1) = some (ax.getD 1 0) ∧ (xinf (ax.headD 0)).2.2.2.1 = [] ∧ xw ((xinf (ax.headD 0)).2.2.2.2.getD 2 (99, 0)).1 ((xinf (ax.headD 0)).2.2.2.2.getD 2 (99, 0)).2 = some (.instanceMethod y))
  | _, _, _ => false)
def xnat (w : Nat) : MethodName := match w with
  | 4 => objectInit
  | 5 => arraycopyName
  | _ => ⟨"java/lang/Double", "doubleToRawLongBits", "(D)J"⟩
def xmth (w : Nat) : MethodName := match w with
  | 0 => Lib.Math.max.name
  | 1 => Lib.Math.min.name
  | _ => Lib.Math.abs.name
def xnms : List String := ["java/lang/RuntimeException", "java/lang/Exception"]
def xic (E : Nat) : Nat := match E with
  | 0 => 236
  | 1 => 161
  | _ => 86
def xstrL : List Nat := [84, 124, 177, 234, 325, 333, 335, 337, 342, 344]
/-- throw new E("text"): five instructions -/
def xkT5 (own : String) (r : List xE) (pc : Nat) (i : Instr) (ax : List Nat) : Bool := match ax, i, r with
  | [E, ik, is, ic, wd, q, p, q2, p2], .new x, (p1, _, .dup, l1, _, _) :: (p2', _, i2, l2, _, _) :: (p3, _, .invokespecial y, l3, _, _) :: (p4, _, .athrow, l4, _, _) :: _ =>
    decide (own = "SlowTunes" ∧ x = ik ∧ y = ic ∧ ic = xic E ∧ E < 3 ∧ is ∈ xstrL ∧ xw q p = some (.classLink own ik (xexn E)) ∧ xw q2 p2 = some (.initialized (xexn E)) ∧ p1 = pc + 3 ∧ p2' = pc + 4 ∧ l1 = 1 ∧ l3 = 3 ∧ l4 = 1) && (match wd, i2 with
      | 0, .ldc z => decide (z = is ∧ p3 = pc + 6 ∧ p4 = pc + 9 ∧ l2 = 2)
      | 1, .ldc_w z => decide (z = is ∧ p3 = pc + 7 ∧ p4 = pc + 10 ∧ l2 = 3)
      | _, _ => false)
  | _, _, _ => false
/-- the words of a throw -/
def xkTh (E : Nat) : Bool := ((Jvm.Cond.classLink "SlowTunes" 0 (xexn E) :: Jvm.Cond.initialized (xexn E) :: vx_atS "SlowTunes" (xic E) (xexn E) xnms).all vx_ot) && ((vx_atS "SlowTunes" (xic E) (xexn E) xnms).all fun w => (goodWord w && decide (w ∈ lw_tbl)) || (match w with
  | .castable _ _ => decide (w ∈ lw_tbl)
  | .declares _ => decide (w ∈ lw_tbl)
  | _ => false)) && Bundle.fit (xexn E) && xnms.all Bundle.fit
def xkE (L : List xE) (y : MethodName) (bytes : ByteArray) (rest : List xE) (e : xE) : Bool := match e with
  | (pc, kd, i, len, ax, cv) => decide (decode bytes pc = .ok (i, len)) && (match rest with
    | [] => true
    | e' :: _ => e'.1 == pc + len) && (match kd with
    | 0 => xkA L y.cls pc i len ax cv
    | 7 => xkB L y.cls y.name pc i len ax cv
    | 1 => len == 3 && xkC y.cls i ax
    | 2 => len == 1
    | 3 => len == 3 && xkT5 y.cls rest pc i ax
    | 4 => len == 3 && (match i, xw (ax.headD 99) (ax.getD 1 0) with
      | .invokespecial x, some (.methodLink o z w) => decide (o = y.cls ∧ z = x ∧ w = xnat 4)
      | _, _ => false)
    | 5 => len == 3 && (match i, xw (ax.headD 99) (ax.getD 1 0) with
      | .invokestatic x, some (.methodLink o z w) => decide (o = y.cls ∧ z = x ∧ w = xnat 5)
      | _, _ => false)
    | 8 => len == 3 && (match i, xw (ax.getD 1 99) (ax.getD 2 0) with
      | .invokestatic x, some (.methodLink o z w) => decide (o = y.cls ∧ z = x ∧ w = xmth (ax.headD 9))
      | _, _ => false)
    | 9 => true
    | _ => false)
def xkL (L : List xE) (y : MethodName) (bytes : ByteArray) : List xE → Bool
  | [] => true
  | e :: r => xkE L y bytes r e && xkL L y bytes r
/-- the checks of the places from lo on, n of them -/
def xkJ (L : List xE) (y : MethodName) (bytes : ByteArray) (lo n : Nat) : Bool := (List.range n).all fun i => match L[lo + i]? with
  | some e => xkE L y bytes (L.drop (lo + i + 1)) e
  | none => true
theorem xkJ_use {L : List xE} {y : MethodName} {bytes : ByteArray} {lo n j : Nat} {e : xE} (h : xkJ L y bytes lo n = true) (h1 : lo ≤ j) (h2 : j < lo + n) (he : L[j]? = some e) : xkE L y bytes (L.drop (j + 1)) e = true := by
  have h3 := List.all_eq_true.mp h (j - lo) (List.mem_range.mpr (by omega))
  rw [Nat.add_sub_cancel' h1, he] at h3
  exact h3
theorem xkL_use {L : List xE} {y : MethodName} {bytes : ByteArray} : ∀ (a : List xE), xkL L y bytes a = true → ∀ (j : Nat) (e : xE), a[j]? = some e → xkE L y bytes (a.drop (j + 1)) e = true := by
  intro a
  induction a with
  | nil => intro _ j e h; simp at h
  | cons x r ih =>
    intro h j e he
    rw [xkL, Bool.and_eq_true] at h
    cases j with
    | zero =>
      simp only [List.getElem?_cons_zero, Option.some.injEq] at he
      subst he
      exact h.1
    | succ j =>
      rw [List.getElem?_cons_succ] at he
      exact ih h.2 j e he
def xkR (rk : Nat) (ret : Option FieldType) : Bool := match rk, ret with
  | 0, none => true
  | 1, some .int => true
  | 2, some .boolean => true
  | 3, some .long => true
  | 4, some .double => true
  | 5, some (.object _) => true
  | 5, some (.array _) => true
  | 6, some .byte => true
  | 7, some .char => true
  | _, _ => false
/-- the handlers -/
def xkX (L : List xE) (own : String) : List xX → List (Nat × Nat × Nat × Nat) → Bool
  | [], [] => true
  | (a, b, E, v, t) :: hs, (a', b', h, ct) :: hh => decide (a = a' ∧ b = b' ∧ 0 < t ∧ E < 3 ∧ ct = 13 + 2 * E) && decide (own = "SlowTunesLaw") && (match L[t - 1]? with
    | some (pc, _, .astore w, len, _, _) => decide (pc = h ∧ w = v ∧ len = 2)
    | some (pc, _, .astore_n w, len, _, _) => decide (pc = h ∧ (w : Nat) = v ∧ len = 1)
    | _ => false) && (match L[t]?, L[t - 1]? with
    | some e, some e0 => e.1 == h + e0.2.2.2.1
    | _, _ => false) && xkX L own hs hh
  | _, _ => false
def xkM (g : Nat) : Bool := let y := (xinf g).1
  xkL (xtab g).1 y (xinf g).2.1 (xtab g).1 && decide ((xtab g).2.1 ≤ 18) && xkR (xtab g).2.2.1 (xinf g).2.2.1 && xkX (xtab g).1 y.cls (xtab g).2.2.2 (xinf g).2.2.2.1 && decide ((xinf g).2.2.2.1 = []) && decide ((xtab g).1.head?.map (fun e => e.1) = some 0) && (xtab g).2.2.2.all (fun x => decide (x.2.2.2.1 < (xtab g).2.1))
/-- the words of a method that is called -/
def xkW (g : Nat) : Bool := let y := (xinf g).1
  let ps := (xinf g).2.2.2.2
  decide (y.cls ≠ "java/lang/invoke/MethodHandle" ∧ y.cls ≠ "java/lang/invoke/VarHandle") && plainName y.cls &&
  decide (xw (ps.headD (99, 0)).1 (ps.headD (99, 0)).2 = some (if (xinf g).2.2.2.1 = [] then .code y (xinf g).2.1 (xtab g).2.1 (xinf g).2.2.1 else .codeWith y (xinf g).2.1 (xtab g).2.1 (xinf g).2.2.1 (xinf g).2.2.2.1)) &&
  decide (xw (ps.getD 1 (99, 0)).1 (ps.getD 1 (99, 0)).2 = some (.initialized y.cls)) &&
  decide (xw (ps.getD 2 (99, 0)).1 (ps.getD 2 (99, 0)).2 = some (.instanceMethod y) ∨ xw (ps.getD 2 (99, 0)).1 (ps.getD 2 (99, 0)).2 = some (.static y)) &&
  (match ps with
  | [_, _, _, s] => decide (xsel s.1 s.2 = some (.selects y.cls y y) ∧ xw (ps.getD 2 (99, 0)).1 (ps.getD 2 (99, 0)).2 = some (.instanceMethod y))
  | _ => true)
def xkCl (ci : Nat) : Bool := decide (∀ k, k < (xcl ci).2.2 → xw (xlay ci k).1 (xlay ci k).2 = some (u_lay (xcl ci).1 (xcl ci).2.1 k)) && decide (∀ a, a < (xcl ci).2.2 → ∀ b, b < (xcl ci).2.2 → a ≠ b → ((xcl ci).2.1 a).2.1 ≠ ((xcl ci).2.1 b).2.1) && (match xw (xins ci).1 (xins ci).2 with
  | some (.instantiable C n) => decide (C = (xcl ci).1)
  | _ => false) && decide (∀ k, k < (xcl ci).2.2 → (parseFieldDescriptor ((xcl ci).2.1 k).2.2.1).isSome = true ∧ (xdef ci)[k]? = (parseFieldDescriptor ((xcl ci).2.1 k).2.2.1).map defaultValue) && decide ((xdef ci).length = (xcl ci).2.2)
