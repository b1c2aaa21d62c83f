/-! NAMES AND TABLES of the little machine, by program out of the listing and the Statement (names.py, mknames.py) -/
def nC : Nat := 8
def nM : Nat := 129
def cN (ci : Nat) : String := match ci with
  | 0 => "FiguredBass"
  | 1 => "FiguredBass$Key"
  | 2 => "FiguredBass$Row"
  | 3 => "FiguredBass$Chord"
  | 4 => "FiguredBass$Move"
  | 5 => "FiguredBass$Realisation"
  | 6 => "FiguredBass$Examination"
  | 7 => "FiguredBassModel"
  | 8 => "FiguredBassLaw"
  | _ => "java/lang/Math"
def cF0 : u_T := fun k => match k with
  | 0 => ("FiguredBass", "scale", "LFiguredBass$Key;", true)
  | 1 => ("FiguredBass", "chords", "[LFiguredBass$Chord;", true)
  | 2 => ("FiguredBass", "realisation", "LFiguredBass$Realisation;", true)
  | 3 => ("FiguredBass", "examination", "LFiguredBass$Examination;", true)
  | _ => ("FiguredBass", "counting", "I", false)
def ct0 : Nat → FieldType := fun k => match k with
  | 0 => .object "FiguredBass$Key"
  | 1 => .array (.object "FiguredBass$Chord")
  | 2 => .object "FiguredBass$Realisation"
  | 3 => .object "FiguredBass$Examination"
  | _ => .int
def cF1 : u_T := fun k => match k with
  | 0 => ("FiguredBass$Key", "alterations", "[I", true)
  | _ => ("FiguredBass$Key", "leadingClass", "I", false)
def ct1 : Nat → FieldType := fun k => match k with
  | 0 => .array .int
  | _ => .int
def cF2 : u_T := fun k => match k with
  | 0 => ("FiguredBass$Row", "numbers", "[I", true)
  | 1 => ("FiguredBass$Row", "signs", "[I", true)
  | _ => ("FiguredBass$Row", "size", "I", false)
def ct2 : Nat → FieldType := fun k => match k with
  | 0 => .array .int
  | 1 => .array .int
  | _ => .int
def cF3 : u_T := fun k => match k with
  | 0 => ("FiguredBass$Chord", "written", "LFiguredBass$Row;", true)
  | 1 => ("FiguredBass$Chord", "full", "LFiguredBass$Row;", true)
  | 2 => ("FiguredBass$Chord", "letters", "[I", true)
  | 3 => ("FiguredBass$Chord", "classes", "[I", true)
  | 4 => ("FiguredBass$Chord", "letterOfClass", "[I", true)
  | 5 => ("FiguredBass$Chord", "placed", "[I", true)
  | 6 => ("FiguredBass$Chord", "pupilSounds", "[I", true)
  | 7 => ("FiguredBass$Chord", "bassLetter", "I", false)
  | 8 => ("FiguredBass$Chord", "bassAlteration", "I", false)
  | 9 => ("FiguredBass$Chord", "bassSound", "I", false)
  | 10 => ("FiguredBass$Chord", "toneCount", "I", false)
  | 11 => ("FiguredBass$Chord", "optionalTone", "I", false)
  | 12 => ("FiguredBass$Chord", "leadingClass", "I", false)
  | 13 => ("FiguredBass$Chord", "seventhClass", "I", false)
  | 14 => ("FiguredBass$Chord", "thirdClass", "I", false)
  | 15 => ("FiguredBass$Chord", "whole", "Z", false)
  | 16 => ("FiguredBass$Chord", "placementCount", "I", false)
  | _ => ("FiguredBass$Chord", "gathered", "Z", false)
def ct3 : Nat → FieldType := fun k => match k with
  | 0 => .object "FiguredBass$Row"
  | 1 => .object "FiguredBass$Row"
  | 2 => .array .int
  | 3 => .array .int
  | 4 => .array .int
  | 5 => .array .int
  | 6 => .array .int
  | 7 => .int
  | 8 => .int
  | 9 => .int
  | 10 => .int
  | 11 => .int
  | 12 => .int
  | 13 => .int
  | 14 => .int
  | 15 => .boolean
  | 16 => .int
  | _ => .boolean
def cF4 : u_T := fun k => match k with
  | 0 => ("FiguredBass$Move", "from", "[I", true)
  | 1 => ("FiguredBass$Move", "to", "[I", true)
  | 2 => ("FiguredBass$Move", "fromLetters", "[I", true)
  | 3 => ("FiguredBass$Move", "toLetters", "[I", true)
  | 4 => ("FiguredBass$Move", "leadingClass", "I", false)
  | _ => ("FiguredBass$Move", "seventhClass", "I", false)
def ct4 : Nat → FieldType := fun k => match k with
  | 0 => .array .int
  | 1 => .array .int
  | 2 => .array .int
  | 3 => .array .int
  | 4 => .int
  | _ => .int
def cF5 : u_T := fun k => match k with
  | 0 => ("FiguredBass$Realisation", "move", "LFiguredBass$Move;", true)
  | 1 => ("FiguredBass$Realisation", "costToEnd", "[[I", true)
  | 2 => ("FiguredBass$Realisation", "following", "[[I", true)
  | 3 => ("FiguredBass$Realisation", "reached", "[Z", true)
  | 4 => ("FiguredBass$Realisation", "reachedNext", "[Z", true)
  | 5 => ("FiguredBass$Realisation", "chosen", "[I", true)
  | _ => ("FiguredBass$Realisation", "laidOut", "Z", false)
def ct5 : Nat → FieldType := fun k => match k with
  | 0 => .object "FiguredBass$Move"
  | 1 => .array (.array .int)
  | 2 => .array (.array .int)
  | 3 => .array .boolean
  | 4 => .array .boolean
  | 5 => .array .int
  | _ => .boolean
def cF6 : u_T := fun k => match k with
  | 0 => ("FiguredBass$Examination", "move", "LFiguredBass$Move;", true)
  | 1 => ("FiguredBass$Examination", "where", "[I", true)
  | 2 => ("FiguredBass$Examination", "kinds", "[I", true)
  | 3 => ("FiguredBass$Examination", "voices", "[I", true)
  | _ => ("FiguredBass$Examination", "found", "I", false)
def ct6 : Nat → FieldType := fun k => match k with
  | 0 => .object "FiguredBass$Move"
  | 1 => .array .int
  | 2 => .array .int
  | 3 => .array .int
  | _ => .int
def cF7 : u_T := fun k => match k with
  | 0 => ("FiguredBassModel", "thrown", "I", false)
  | 1 => ("FiguredBassModel", "bases", "[I", true)
  | 2 => ("FiguredBassModel", "sharps", "[I", true)
  | 3 => ("FiguredBassModel", "lows", "[I", true)
  | 4 => ("FiguredBassModel", "highs", "[I", true)
  | 5 => ("FiguredBassModel", "fifths", "I", false)
  | 6 => ("FiguredBassModel", "minor", "Z", false)
  | 7 => ("FiguredBassModel", "n", "I", false)
  | 8 => ("FiguredBassModel", "basses", "[I", true)
  | 9 => ("FiguredBassModel", "letters", "[I", true)
  | 10 => ("FiguredBassModel", "alterations", "[I", true)
  | 11 => ("FiguredBassModel", "many", "[I", true)
  | 12 => ("FiguredBassModel", "numbers", "[I", true)
  | 13 => ("FiguredBassModel", "signs", "[I", true)
  | 14 => ("FiguredBassModel", "size", "I", false)
  | 15 => ("FiguredBassModel", "row", "[I", true)
  | 16 => ("FiguredBassModel", "rowSigns", "[I", true)
  | 17 => ("FiguredBassModel", "tones", "I", false)
  | 18 => ("FiguredBassModel", "toneLetters", "[I", true)
  | 19 => ("FiguredBassModel", "toneClasses", "[I", true)
  | 20 => ("FiguredBassModel", "optional", "I", false)
  | 21 => ("FiguredBassModel", "seventh", "I", false)
  | 22 => ("FiguredBassModel", "third", "I", false)
  | 23 => ("FiguredBassModel", "letterOf", "[I", true)
  | 24 => ("FiguredBassModel", "sevenths", "[I", true)
  | 25 => ("FiguredBassModel", "thirds", "[I", true)
  | 26 => ("FiguredBassModel", "counts", "[I", true)
  | 27 => ("FiguredBassModel", "first", "[I", true)
  | 28 => ("FiguredBassModel", "second", "[I", true)
  | 29 => ("FiguredBassModel", "last", "[I", true)
  | 30 => ("FiguredBassModel", "onward", "[I", true)
  | 31 => ("FiguredBassModel", "reached", "[Z", true)
  | 32 => ("FiguredBassModel", "laid", "Z", false)
  | 33 => ("FiguredBassModel", "laidSounds", "[I", true)
  | 34 => ("FiguredBassModel", "laidCosts", "[I", true)
  | 35 => ("FiguredBassModel", "pupils", "[I", true)
  | 36 => ("FiguredBassModel", "found", "I", false)
  | 37 => ("FiguredBassModel", "foundChord", "[I", true)
  | 38 => ("FiguredBassModel", "foundKind", "[I", true)
  | 39 => ("FiguredBassModel", "foundVoices", "[I", true)
  | 40 => ("FiguredBassModel", "from", "[I", true)
  | _ => ("FiguredBassModel", "to", "[I", true)
def ct7 : Nat → FieldType := fun k => match k with
  | 0 => .int
  | 1 => .array .int
  | 2 => .array .int
  | 3 => .array .int
  | 4 => .array .int
  | 5 => .int
  | 6 => .boolean
  | 7 => .int
  | 8 => .array .int
  | 9 => .array .int
  | 10 => .array .int
  | 11 => .array .int
  | 12 => .array .int
  | 13 => .array .int
  | 14 => .int
  | 15 => .array .int
  | 16 => .array .int
  | 17 => .int
  | 18 => .array .int
  | 19 => .array .int
  | 20 => .int
  | 21 => .int
  | 22 => .int
  | 23 => .array .int
  | 24 => .array .int
  | 25 => .array .int
  | 26 => .array .int
  | 27 => .array .int
  | 28 => .array .int
  | 29 => .array .int
  | 30 => .array .int
  | 31 => .array .boolean
  | 32 => .boolean
  | 33 => .array .int
  | 34 => .array .int
  | 35 => .array .int
  | 36 => .int
  | 37 => .array .int
  | 38 => .array .int
  | 39 => .array .int
  | 40 => .array .int
  | _ => .array .int
def cF (ci : Nat) : u_T := match ci with
  | 0 => cF0
  | 1 => cF1
  | 2 => cF2
  | 3 => cF3
  | 4 => cF4
  | 5 => cF5
  | 6 => cF6
  | _ => cF7
def ct (ci : Nat) : Nat → FieldType := match ci with
  | 0 => ct0
  | 1 => ct1
  | 2 => ct2
  | 3 => ct3
  | 4 => ct4
  | 5 => ct5
  | 6 => ct6
  | _ => ct7
def cn (ci : Nat) : Nat := match ci with
  | 0 => 5
  | 1 => 2
  | 2 => 3
  | 3 => 18
  | 4 => 6
  | 5 => 7
  | 6 => 5
  | _ => 42
def mO (y : Nat) : Nat := match y with
  | 0 => 0
  | 1 => 0
  | 2 => 0
  | 3 => 0
  | 4 => 0
  | 5 => 0
  | 6 => 0
  | 7 => 0
  | 8 => 0
  | 9 => 0
  | 10 => 0
  | 11 => 0
  | 12 => 0
  | 13 => 0
  | 14 => 0
  | 15 => 0
  | 16 => 0
  | 17 => 0
  | 18 => 1
  | 19 => 1
  | 20 => 2
  | 21 => 2
  | 22 => 2
  | 23 => 2
  | 24 => 2
  | 25 => 2
  | 26 => 2
  | 27 => 2
  | 28 => 2
  | 29 => 3
  | 30 => 3
  | 31 => 3
  | 32 => 3
  | 33 => 3
  | 34 => 3
  | 35 => 3
  | 36 => 3
  | 37 => 3
  | 38 => 3
  | 39 => 3
  | 40 => 3
  | 41 => 3
  | 42 => 3
  | 43 => 3
  | 44 => 3
  | 45 => 3
  | 46 => 3
  | 47 => 4
  | 48 => 4
  | 49 => 4
  | 50 => 4
  | 51 => 4
  | 52 => 4
  | 53 => 4
  | 54 => 4
  | 55 => 5
  | 56 => 5
  | 57 => 5
  | 58 => 5
  | 59 => 5
  | 60 => 5
  | 61 => 5
  | 62 => 5
  | 63 => 5
  | 64 => 5
  | 65 => 5
  | 66 => 6
  | 67 => 6
  | 68 => 6
  | 69 => 6
  | 70 => 6
  | 71 => 6
  | 72 => 6
  | 73 => 6
  | 74 => 7
  | 75 => 7
  | 76 => 7
  | 77 => 7
  | 78 => 7
  | 79 => 7
  | 80 => 7
  | 81 => 7
  | 82 => 7
  | 83 => 7
  | 84 => 7
  | 85 => 7
  | 86 => 7
  | 87 => 7
  | 88 => 7
  | 89 => 7
  | 90 => 7
  | 91 => 7
  | 92 => 7
  | 93 => 7
  | 94 => 7
  | 95 => 7
  | 96 => 7
  | 97 => 7
  | 98 => 7
  | 99 => 7
  | 100 => 7
  | 101 => 7
  | 102 => 7
  | 103 => 7
  | 104 => 7
  | 105 => 7
  | 106 => 7
  | 107 => 7
  | 108 => 7
  | 109 => 7
  | 110 => 7
  | 111 => 7
  | 112 => 7
  | 113 => 7
  | 114 => 7
  | 115 => 7
  | 116 => 7
  | 117 => 7
  | 118 => 7
  | 119 => 7
  | 120 => 7
  | 121 => 7
  | 122 => 7
  | 123 => 7
  | 124 => 7
  | 125 => 7
  | 126 => 7
  | 127 => 7
  | 128 => 9
  | 129 => 8
  | 130 => 8
  | 131 => 8
  | 132 => 8
  | 133 => 8
  | 134 => 8
  | 135 => 8
  | 136 => 8
  | 137 => 8
  | 138 => 8
  | 139 => 8
  | 140 => 8
  | 141 => 8
  | _ => 8
def mY (y : Nat) : MethodName := match y with
  | 0 => ⟨"FiguredBass", "key", "(IZ)V"⟩
  | 1 => ⟨"FiguredBass", "length", "(I)V"⟩
  | 2 => ⟨"FiguredBass", "bass", "(IIII)I"⟩
  | 3 => ⟨"FiguredBass", "figure", "(III)I"⟩
  | 4 => ⟨"FiguredBass", "spell", "(II)I"⟩
  | 5 => ⟨"FiguredBass", "places", "(I)I"⟩
  | 6 => ⟨"FiguredBass", "place", "(III)I"⟩
  | 7 => ⟨"FiguredBass", "realise", "()I"⟩
  | 8 => ⟨"FiguredBass", "note", "(II)I"⟩
  | 9 => ⟨"FiguredBass", "cost", "(I)I"⟩
  | 10 => ⟨"FiguredBass", "pupil", "(III)V"⟩
  | 11 => ⟨"FiguredBass", "faults", "()I"⟩
  | 12 => ⟨"FiguredBass", "fault", "(II)I"⟩
  | 13 => ⟨"FiguredBass", "checkChord", "(II)V"⟩
  | 14 => ⟨"FiguredBass", "checkVoice", "(II)V"⟩
  | 15 => ⟨"FiguredBass", "checkWhole", "(I)V"⟩
  | 16 => ⟨"FiguredBass", "checkAllWhole", "()V"⟩
  | 17 => ⟨"FiguredBass", "checkLaidOut", "()V"⟩
  | 18 => ⟨"FiguredBass$Key", "write", "(IZ)V"⟩
  | 19 => ⟨"FiguredBass$Key", "alterationOf", "(II)I"⟩
  | 20 => ⟨"FiguredBass$Row", "clear", "()V"⟩
  | 21 => ⟨"FiguredBass$Row", "takes", "(I)Z"⟩
  | 22 => ⟨"FiguredBass$Row", "add", "(II)V"⟩
  | 23 => ⟨"FiguredBass$Row", "indexOf", "(I)I"⟩
  | 24 => ⟨"FiguredBass$Row", "has", "(I)Z"⟩
  | 25 => ⟨"FiguredBass$Row", "spellOut", "(LFiguredBass$Row;)V"⟩
  | 26 => ⟨"FiguredBass$Row", "addsOptionalFifth", "()Z"⟩
  | 27 => ⟨"FiguredBass$Row", "digits", "()I"⟩
  | 28 => ⟨"FiguredBass$Row", "longDigits", "()I"⟩
  | 29 => ⟨"FiguredBass$Chord", "hasBass", "()Z"⟩
  | 30 => ⟨"FiguredBass$Chord", "writeBass", "(III)V"⟩
  | 31 => ⟨"FiguredBass$Chord", "read", "(LFiguredBass$Key;)V"⟩
  | 32 => ⟨"FiguredBass$Chord", "readTones", "(LFiguredBass$Key;)V"⟩
  | 33 => ⟨"FiguredBass$Chord", "addTone", "(II)V"⟩
  | 34 => ⟨"FiguredBass$Chord", "readSeventhAndThird", "()V"⟩
  | 35 => ⟨"FiguredBass$Chord", "seventhTone", "()I"⟩
  | 36 => ⟨"FiguredBass$Chord", "letterOf", "(I)I"⟩
  | 37 => ⟨"FiguredBass$Chord", "hasTone", "(I)Z"⟩
  | 38 => ⟨"FiguredBass$Chord", "gather", "()V"⟩
  | 39 => ⟨"FiguredBass$Chord", "gatherTenors", "(III)V"⟩
  | 40 => ⟨"FiguredBass$Chord", "addPlacement", "(III)V"⟩
  | 41 => ⟨"FiguredBass$Chord", "neededClasses", "()I"⟩
  | 42 => ⟨"FiguredBass$Chord", "bit", "(I)I"⟩
  | 43 => ⟨"FiguredBass$Chord", "soundOf", "(II)I"⟩
  | 44 => ⟨"FiguredBass$Chord", "pupilGap", "(I)I"⟩
  | 45 => ⟨"FiguredBass$Chord", "fees", "(I)I"⟩
  | 46 => ⟨"FiguredBass$Chord", "doublings", "(II)I"⟩
  | 47 => ⟨"FiguredBass$Move", "startAt", "(LFiguredBass$Chord;I)V"⟩
  | 48 => ⟨"FiguredBass$Move", "endAt", "(LFiguredBass$Chord;I)V"⟩
  | 49 => ⟨"FiguredBass$Move", "distance", "()I"⟩
  | 50 => ⟨"FiguredBass$Move", "keepsRules", "()Z"⟩
  | 51 => ⟨"FiguredBass$Move", "breaksParallel", "(II)Z"⟩
  | 52 => ⟨"FiguredBass$Move", "breaksLeading", "(I)Z"⟩
  | 53 => ⟨"FiguredBass$Move", "breaksSeventh", "(I)Z"⟩
  | 54 => ⟨"FiguredBass$Move", "breaksStep", "(I)Z"⟩
  | 55 => ⟨"FiguredBass$Realisation", "forget", "()V"⟩
  | 56 => ⟨"FiguredBass$Realisation", "write", "([LFiguredBass$Chord;I)I"⟩
  | 57 => ⟨"FiguredBass$Realisation", "weigh", "([LFiguredBass$Chord;III)V"⟩
  | 58 => ⟨"FiguredBass$Realisation", "cheapest", "(I)I"⟩
  | 59 => ⟨"FiguredBass$Realisation", "choose", "(II)V"⟩
  | 60 => ⟨"FiguredBass$Realisation", "firstUnreached", "([LFiguredBass$Chord;I)I"⟩
  | 61 => ⟨"FiguredBass$Realisation", "anyReached", "()Z"⟩
  | 62 => ⟨"FiguredBass$Realisation", "reachNext", "(LFiguredBass$Chord;LFiguredBass$Chord;)V"⟩
  | 63 => ⟨"FiguredBass$Realisation", "isReachable", "(LFiguredBass$Chord;LFiguredBass$Chord;I)Z"⟩
  | 64 => ⟨"FiguredBass$Realisation", "soundOf", "([LFiguredBass$Chord;II)I"⟩
  | 65 => ⟨"FiguredBass$Realisation", "shareOf", "([LFiguredBass$Chord;I)I"⟩
  | 66 => ⟨"FiguredBass$Examination", "look", "([LFiguredBass$Chord;I)I"⟩
  | 67 => ⟨"FiguredBass$Examination", "answer", "(II)I"⟩
  | 68 => ⟨"FiguredBass$Examination", "lookAtVoices", "(LFiguredBass$Chord;I)V"⟩
  | 69 => ⟨"FiguredBass$Examination", "lookAtMove", "(I)V"⟩
  | 70 => ⟨"FiguredBass$Examination", "lookForMissingTones", "(LFiguredBass$Chord;I)V"⟩
  | 71 => ⟨"FiguredBass$Examination", "isSung", "(LFiguredBass$Chord;I)Z"⟩
  | 72 => ⟨"FiguredBass$Examination", "pair", "(II)I"⟩
  | 73 => ⟨"FiguredBass$Examination", "addIf", "(ZIII)V"⟩
  | 74 => ⟨"FiguredBassModel", "thrown", "()I"⟩
  | 75 => ⟨"FiguredBassModel", "modulo", "(II)I"⟩
  | 76 => ⟨"FiguredBassModel", "keyAlteration", "(I)I"⟩
  | 77 => ⟨"FiguredBassModel", "classOf", "(II)I"⟩
  | 78 => ⟨"FiguredBassModel", "leading", "()I"⟩
  | 79 => ⟨"FiguredBassModel", "key", "(IZ)V"⟩
  | 80 => ⟨"FiguredBassModel", "length", "(I)V"⟩
  | 81 => ⟨"FiguredBassModel", "noChord", "(I)Z"⟩
  | 82 => ⟨"FiguredBassModel", "bass", "(IIII)I"⟩
  | 83 => ⟨"FiguredBassModel", "figure", "(III)I"⟩
  | 84 => ⟨"FiguredBassModel", "written", "(II)I"⟩
  | 85 => ⟨"FiguredBassModel", "put", "(II)V"⟩
  | 86 => ⟨"FiguredBassModel", "putAll", "(IIII)V"⟩
  | 87 => ⟨"FiguredBassModel", "digitsOf", "(I)I"⟩
  | 88 => ⟨"FiguredBassModel", "unfold", "(I)V"⟩
  | 89 => ⟨"FiguredBassModel", "addTone", "(II)V"⟩
  | 90 => ⟨"FiguredBassModel", "classIn", "(I)I"⟩
  | 91 => ⟨"FiguredBassModel", "look", "(I)V"⟩
  | 92 => ⟨"FiguredBassModel", "isWhole", "(I)Z"⟩
  | 93 => ⟨"FiguredBassModel", "spell", "(II)I"⟩
  | 94 => ⟨"FiguredBassModel", "toneOf", "(I)I"⟩
  | 95 => ⟨"FiguredBassModel", "hasAll", "(III)Z"⟩
  | 96 => ⟨"FiguredBassModel", "writePlaces", "(I)V"⟩
  | 97 => ⟨"FiguredBassModel", "places", "(I)I"⟩
  | 98 => ⟨"FiguredBassModel", "place", "(III)I"⟩
  | 99 => ⟨"FiguredBassModel", "lookAll", "(Z)Z"⟩
  | 100 => ⟨"FiguredBassModel", "apart", "(II)I"⟩
  | 101 => ⟨"FiguredBassModel", "isParallel", "(II)Z"⟩
  | 102 => ⟨"FiguredBassModel", "breaksLeading", "(I)Z"⟩
  | 103 => ⟨"FiguredBassModel", "breaksSeventh", "(II)Z"⟩
  | 104 => ⟨"FiguredBassModel", "breaksStep", "(II)Z"⟩
  | 105 => ⟨"FiguredBassModel", "load", "(II)V"⟩
  | 106 => ⟨"FiguredBassModel", "loadNext", "(II)V"⟩
  | 107 => ⟨"FiguredBassModel", "keeps", "(I)Z"⟩
  | 108 => ⟨"FiguredBassModel", "way", "(I)I"⟩
  | 109 => ⟨"FiguredBassModel", "fee", "(II)I"⟩
  | 110 => ⟨"FiguredBassModel", "fees", "(I)I"⟩
  | 111 => ⟨"FiguredBassModel", "goBack", "(I)V"⟩
  | 112 => ⟨"FiguredBassModel", "goForth", "(I)V"⟩
  | 113 => ⟨"FiguredBassModel", "barred", "()I"⟩
  | 114 => ⟨"FiguredBassModel", "lay", "(III)V"⟩
  | 115 => ⟨"FiguredBassModel", "follow", "(II)I"⟩
  | 116 => ⟨"FiguredBassModel", "realise", "()I"⟩
  | 117 => ⟨"FiguredBassModel", "noVoice", "(II)Z"⟩
  | 118 => ⟨"FiguredBassModel", "note", "(II)I"⟩
  | 119 => ⟨"FiguredBassModel", "cost", "(I)I"⟩
  | 120 => ⟨"FiguredBassModel", "pupil", "(III)V"⟩
  | 121 => ⟨"FiguredBassModel", "mark", "(IIIZ)V"⟩
  | 122 => ⟨"FiguredBassModel", "loadPupil", "(I)V"⟩
  | 123 => ⟨"FiguredBassModel", "markOne", "(I)V"⟩
  | 124 => ⟨"FiguredBassModel", "markRules", "(I)V"⟩
  | 125 => ⟨"FiguredBassModel", "markTones", "(I)V"⟩
  | 126 => ⟨"FiguredBassModel", "faults", "()I"⟩
  | 127 => ⟨"FiguredBassModel", "fault", "(II)I"⟩
  | 128 => ⟨"java/lang/Math", "floorMod", "(II)I"⟩
  | 129 => ⟨"FiguredBassLaw", "law", "([I)Z"⟩
  | 130 => ⟨"FiguredBassLaw", "key", "(LFiguredBass;IZ)I"⟩
  | 131 => ⟨"FiguredBassLaw", "length", "(LFiguredBass;I)I"⟩
  | 132 => ⟨"FiguredBassLaw", "bass", "(LFiguredBass;IIII[J)I"⟩
  | 133 => ⟨"FiguredBassLaw", "figure", "(LFiguredBass;III[J)I"⟩
  | 134 => ⟨"FiguredBassLaw", "spell", "(LFiguredBass;II[J)I"⟩
  | 135 => ⟨"FiguredBassLaw", "places", "(LFiguredBass;I[J)I"⟩
  | 136 => ⟨"FiguredBassLaw", "place", "(LFiguredBass;III[J)I"⟩
  | 137 => ⟨"FiguredBassLaw", "realise", "(LFiguredBass;[J)I"⟩
  | 138 => ⟨"FiguredBassLaw", "note", "(LFiguredBass;II[J)I"⟩
  | 139 => ⟨"FiguredBassLaw", "cost", "(LFiguredBass;I[J)I"⟩
  | 140 => ⟨"FiguredBassLaw", "pupil", "(LFiguredBass;III)I"⟩
  | 141 => ⟨"FiguredBassLaw", "faults", "(LFiguredBass;[J)I"⟩
  | _ => ⟨"FiguredBassLaw", "fault", "(LFiguredBass;II[J)I"⟩
def mB (y : Nat) : ByteArray := match y with
  | 0 => prog_1_method_2_code
  | 1 => prog_1_method_3_code
  | 2 => prog_1_method_4_code
  | 3 => prog_1_method_5_code
  | 4 => prog_1_method_6_code
  | 5 => prog_1_method_7_code
  | 6 => prog_1_method_8_code
  | 7 => prog_1_method_9_code
  | 8 => prog_1_method_10_code
  | 9 => prog_1_method_11_code
  | 10 => prog_1_method_12_code
  | 11 => prog_1_method_13_code
  | 12 => prog_1_method_14_code
  | 13 => prog_1_method_15_code
  | 14 => prog_1_method_16_code
  | 15 => prog_1_method_17_code
  | 16 => prog_1_method_18_code
  | 17 => prog_1_method_19_code
  | 18 => prog_4_method_2_code
  | 19 => prog_4_method_3_code
  | 20 => prog_7_method_2_code
  | 21 => prog_7_method_3_code
  | 22 => prog_7_method_4_code
  | 23 => prog_7_method_5_code
  | 24 => prog_7_method_6_code
  | 25 => prog_7_method_7_code
  | 26 => prog_7_method_8_code
  | 27 => prog_7_method_9_code
  | 28 => prog_7_method_10_code
  | 29 => prog_2_method_2_code
  | 30 => prog_2_method_3_code
  | 31 => prog_2_method_4_code
  | 32 => prog_2_method_5_code
  | 33 => prog_2_method_6_code
  | 34 => prog_2_method_7_code
  | 35 => prog_2_method_8_code
  | 36 => prog_2_method_9_code
  | 37 => prog_2_method_10_code
  | 38 => prog_2_method_11_code
  | 39 => prog_2_method_12_code
  | 40 => prog_2_method_13_code
  | 41 => prog_2_method_14_code
  | 42 => prog_2_method_15_code
  | 43 => prog_2_method_16_code
  | 44 => prog_2_method_17_code
  | 45 => prog_2_method_18_code
  | 46 => prog_2_method_19_code
  | 47 => prog_5_method_2_code
  | 48 => prog_5_method_3_code
  | 49 => prog_5_method_4_code
  | 50 => prog_5_method_5_code
  | 51 => prog_5_method_6_code
  | 52 => prog_5_method_7_code
  | 53 => prog_5_method_8_code
  | 54 => prog_5_method_9_code
  | 55 => prog_6_method_2_code
  | 56 => prog_6_method_3_code
  | 57 => prog_6_method_4_code
  | 58 => prog_6_method_5_code
  | 59 => prog_6_method_6_code
  | 60 => prog_6_method_7_code
  | 61 => prog_6_method_8_code
  | 62 => prog_6_method_9_code
  | 63 => prog_6_method_10_code
  | 64 => prog_6_method_11_code
  | 65 => prog_6_method_12_code
  | 66 => prog_3_method_2_code
  | 67 => prog_3_method_3_code
  | 68 => prog_3_method_4_code
  | 69 => prog_3_method_5_code
  | 70 => prog_3_method_6_code
  | 71 => prog_3_method_7_code
  | 72 => prog_3_method_8_code
  | 73 => prog_3_method_9_code
  | 74 => prog_9_method_2_code
  | 75 => prog_9_method_3_code
  | 76 => prog_9_method_4_code
  | 77 => prog_9_method_5_code
  | 78 => prog_9_method_6_code
  | 79 => prog_9_method_7_code
  | 80 => prog_9_method_8_code
  | 81 => prog_9_method_9_code
  | 82 => prog_9_method_10_code
  | 83 => prog_9_method_11_code
  | 84 => prog_9_method_12_code
  | 85 => prog_9_method_13_code
  | 86 => prog_9_method_14_code
  | 87 => prog_9_method_15_code
  | 88 => prog_9_method_16_code
  | 89 => prog_9_method_17_code
  | 90 => prog_9_method_18_code
  | 91 => prog_9_method_19_code
  | 92 => prog_9_method_20_code
  | 93 => prog_9_method_21_code
  | 94 => prog_9_method_22_code
  | 95 => prog_9_method_23_code
  | 96 => prog_9_method_24_code
  | 97 => prog_9_method_25_code
  | 98 => prog_9_method_26_code
  | 99 => prog_9_method_27_code
  | 100 => prog_9_method_28_code
  | 101 => prog_9_method_29_code
  | 102 => prog_9_method_30_code
  | 103 => prog_9_method_31_code
  | 104 => prog_9_method_32_code
  | 105 => prog_9_method_33_code
  | 106 => prog_9_method_34_code
  | 107 => prog_9_method_35_code
  | 108 => prog_9_method_36_code
  | 109 => prog_9_method_37_code
  | 110 => prog_9_method_38_code
  | 111 => prog_9_method_39_code
  | 112 => prog_9_method_40_code
  | 113 => prog_9_method_41_code
  | 114 => prog_9_method_42_code
  | 115 => prog_9_method_43_code
  | 116 => prog_9_method_44_code
  | 117 => prog_9_method_45_code
  | 118 => prog_9_method_46_code
  | 119 => prog_9_method_47_code
  | 120 => prog_9_method_48_code
  | 121 => prog_9_method_49_code
  | 122 => prog_9_method_50_code
  | 123 => prog_9_method_51_code
  | 124 => prog_9_method_52_code
  | 125 => prog_9_method_53_code
  | 126 => prog_9_method_54_code
  | 127 => prog_9_method_55_code
  | 128 => prog_14_method_50_code
  | 129 => code
  | 130 => method_3_code
  | 131 => method_4_code
  | 132 => method_5_code
  | 133 => method_6_code
  | 134 => method_7_code
  | 135 => method_8_code
  | 136 => method_9_code
  | 137 => method_10_code
  | 138 => method_11_code
  | 139 => method_12_code
  | 140 => method_13_code
  | 141 => method_14_code
  | _ => method_15_code
def mL (y : Nat) : Nat := match y with
  | 0 => 4
  | 1 => 2
  | 2 => 7
  | 3 => 5
  | 4 => 5
  | 5 => 2
  | 6 => 4
  | 7 => 2
  | 8 => 3
  | 9 => 2
  | 10 => 4
  | 11 => 1
  | 12 => 3
  | 13 => 3
  | 14 => 3
  | 15 => 2
  | 16 => 2
  | 17 => 1
  | 18 => 4
  | 19 => 3
  | 20 => 1
  | 21 => 2
  | 22 => 3
  | 23 => 3
  | 24 => 2
  | 25 => 6
  | 26 => 2
  | 27 => 3
  | 28 => 3
  | 29 => 1
  | 30 => 4
  | 31 => 2
  | 32 => 4
  | 33 => 4
  | 34 => 3
  | 35 => 1
  | 36 => 2
  | 37 => 2
  | 38 => 6
  | 39 => 8
  | 40 => 5
  | 41 => 3
  | 42 => 1
  | 43 => 3
  | 44 => 2
  | 45 => 2
  | 46 => 5
  | 47 => 4
  | 48 => 4
  | 49 => 3
  | 50 => 3
  | 51 => 4
  | 52 => 3
  | 53 => 3
  | 54 => 5
  | 55 => 1
  | 56 => 5
  | 57 => 9
  | 58 => 5
  | 59 => 4
  | 60 => 4
  | 61 => 2
  | 62 => 4
  | 63 => 5
  | 64 => 4
  | 65 => 4
  | 66 => 4
  | 67 => 3
  | 68 => 5
  | 69 => 4
  | 70 => 5
  | 71 => 3
  | 72 => 2
  | 73 => 5
  | 74 => 1
  | 75 => 4
  | 76 => 3
  | 77 => 3
  | 78 => 2
  | 79 => 3
  | 80 => 2
  | 81 => 2
  | 82 => 7
  | 83 => 5
  | 84 => 4
  | 85 => 4
  | 86 => 5
  | 87 => 4
  | 88 => 3
  | 89 => 3
  | 90 => 3
  | 91 => 6
  | 92 => 5
  | 93 => 3
  | 94 => 3
  | 95 => 5
  | 96 => 7
  | 97 => 2
  | 98 => 5
  | 99 => 5
  | 100 => 3
  | 101 => 4
  | 102 => 2
  | 103 => 4
  | 104 => 7
  | 105 => 3
  | 106 => 3
  | 107 => 5
  | 108 => 2
  | 109 => 5
  | 110 => 2
  | 111 => 7
  | 112 => 4
  | 113 => 4
  | 114 => 5
  | 115 => 5
  | 116 => 6
  | 117 => 3
  | 118 => 3
  | 119 => 2
  | 120 => 4
  | 121 => 5
  | 122 => 3
  | 123 => 4
  | 124 => 4
  | 125 => 5
  | 126 => 2
  | 127 => 3
  | 128 => 3
  | 129 => 7
  | 130 => 4
  | 131 => 3
  | 132 => 7
  | 133 => 6
  | 134 => 5
  | 135 => 4
  | 136 => 6
  | 137 => 3
  | 138 => 5
  | 139 => 4
  | 140 => 5
  | 141 => 3
  | _ => 5
def mR (y : Nat) : Option FieldType := match y with
  | 0 => none
  | 1 => none
  | 2 => some .int
  | 3 => some .int
  | 4 => some .int
  | 5 => some .int
  | 6 => some .int
  | 7 => some .int
  | 8 => some .int
  | 9 => some .int
  | 10 => none
  | 11 => some .int
  | 12 => some .int
  | 13 => none
  | 14 => none
  | 15 => none
  | 16 => none
  | 17 => none
  | 18 => none
  | 19 => some .int
  | 20 => none
  | 21 => some .boolean
  | 22 => none
  | 23 => some .int
  | 24 => some .boolean
  | 25 => none
  | 26 => some .boolean
  | 27 => some .int
  | 28 => some .int
  | 29 => some .boolean
  | 30 => none
  | 31 => none
  | 32 => none
  | 33 => none
  | 34 => none
  | 35 => some .int
  | 36 => some .int
  | 37 => some .boolean
  | 38 => none
  | 39 => none
  | 40 => none
  | 41 => some .int
  | 42 => some .int
  | 43 => some .int
  | 44 => some .int
  | 45 => some .int
  | 46 => some .int
  | 47 => none
  | 48 => none
  | 49 => some .int
  | 50 => some .boolean
  | 51 => some .boolean
  | 52 => some .boolean
  | 53 => some .boolean
  | 54 => some .boolean
  | 55 => none
  | 56 => some .int
  | 57 => none
  | 58 => some .int
  | 59 => none
  | 60 => some .int
  | 61 => some .boolean
  | 62 => none
  | 63 => some .boolean
  | 64 => some .int
  | 65 => some .int
  | 66 => some .int
  | 67 => some .int
  | 68 => none
  | 69 => none
  | 70 => none
  | 71 => some .boolean
  | 72 => some .int
  | 73 => none
  | 74 => some .int
  | 75 => some .int
  | 76 => some .int
  | 77 => some .int
  | 78 => some .int
  | 79 => none
  | 80 => none
  | 81 => some .boolean
  | 82 => some .int
  | 83 => some .int
  | 84 => some .int
  | 85 => none
  | 86 => none
  | 87 => some .int
  | 88 => none
  | 89 => none
  | 90 => some .int
  | 91 => none
  | 92 => some .boolean
  | 93 => some .int
  | 94 => some .int
  | 95 => some .boolean
  | 96 => none
  | 97 => some .int
  | 98 => some .int
  | 99 => some .boolean
  | 100 => some .int
  | 101 => some .boolean
  | 102 => some .boolean
  | 103 => some .boolean
  | 104 => some .boolean
  | 105 => none
  | 106 => none
  | 107 => some .boolean
  | 108 => some .int
  | 109 => some .int
  | 110 => some .int
  | 111 => none
  | 112 => none
  | 113 => some .int
  | 114 => none
  | 115 => some .int
  | 116 => some .int
  | 117 => some .boolean
  | 118 => some .int
  | 119 => some .int
  | 120 => none
  | 121 => none
  | 122 => none
  | 123 => none
  | 124 => none
  | 125 => none
  | 126 => some .int
  | 127 => some .int
  | 128 => some .int
  | 129 => some .boolean
  | 130 => some .int
  | 131 => some .int
  | 132 => some .int
  | 133 => some .int
  | 134 => some .int
  | 135 => some .int
  | 136 => some .int
  | 137 => some .int
  | 138 => some .int
  | 139 => some .int
  | 140 => some .int
  | 141 => some .int
  | _ => some .int
def mN (y : Nat) : Nat := match y with
  | 0 => 2
  | 1 => 1
  | 2 => 4
  | 3 => 3
  | 4 => 2
  | 5 => 1
  | 6 => 3
  | 7 => 0
  | 8 => 2
  | 9 => 1
  | 10 => 3
  | 11 => 0
  | 12 => 2
  | 13 => 2
  | 14 => 2
  | 15 => 1
  | 16 => 0
  | 17 => 0
  | 18 => 2
  | 19 => 2
  | 20 => 0
  | 21 => 1
  | 22 => 2
  | 23 => 1
  | 24 => 1
  | 25 => 1
  | 26 => 0
  | 27 => 0
  | 28 => 0
  | 29 => 0
  | 30 => 3
  | 31 => 1
  | 32 => 1
  | 33 => 2
  | 34 => 0
  | 35 => 0
  | 36 => 1
  | 37 => 1
  | 38 => 0
  | 39 => 3
  | 40 => 3
  | 41 => 0
  | 42 => 1
  | 43 => 2
  | 44 => 1
  | 45 => 1
  | 46 => 2
  | 47 => 2
  | 48 => 2
  | 49 => 0
  | 50 => 0
  | 51 => 2
  | 52 => 1
  | 53 => 1
  | 54 => 1
  | 55 => 0
  | 56 => 2
  | 57 => 4
  | 58 => 1
  | 59 => 2
  | 60 => 2
  | 61 => 0
  | 62 => 2
  | 63 => 3
  | 64 => 3
  | 65 => 2
  | 66 => 2
  | 67 => 2
  | 68 => 2
  | 69 => 1
  | 70 => 2
  | 71 => 2
  | 72 => 2
  | 73 => 4
  | 74 => 0
  | 75 => 2
  | 76 => 1
  | 77 => 2
  | 78 => 0
  | 79 => 2
  | 80 => 1
  | 81 => 1
  | 82 => 4
  | 83 => 3
  | 84 => 2
  | 85 => 2
  | 86 => 4
  | 87 => 1
  | 88 => 1
  | 89 => 2
  | 90 => 1
  | 91 => 1
  | 92 => 1
  | 93 => 2
  | 94 => 1
  | 95 => 3
  | 96 => 1
  | 97 => 1
  | 98 => 3
  | 99 => 1
  | 100 => 2
  | 101 => 2
  | 102 => 1
  | 103 => 2
  | 104 => 2
  | 105 => 2
  | 106 => 2
  | 107 => 1
  | 108 => 1
  | 109 => 2
  | 110 => 1
  | 111 => 1
  | 112 => 1
  | 113 => 0
  | 114 => 3
  | 115 => 2
  | 116 => 0
  | 117 => 2
  | 118 => 2
  | 119 => 1
  | 120 => 3
  | 121 => 4
  | 122 => 1
  | 123 => 1
  | 124 => 1
  | 125 => 1
  | 126 => 0
  | 127 => 2
  | 128 => 2
  | 129 => 1
  | 130 => 3
  | 131 => 2
  | 132 => 6
  | 133 => 5
  | 134 => 4
  | 135 => 3
  | 136 => 5
  | 137 => 2
  | 138 => 4
  | 139 => 3
  | 140 => 4
  | 141 => 2
  | _ => 4
def mS (y : Nat) : Bool := match y with
  | 0 => false
  | 1 => false
  | 2 => false
  | 3 => false
  | 4 => false
  | 5 => false
  | 6 => false
  | 7 => false
  | 8 => false
  | 9 => false
  | 10 => false
  | 11 => false
  | 12 => false
  | 13 => false
  | 14 => false
  | 15 => false
  | 16 => false
  | 17 => false
  | 18 => false
  | 19 => false
  | 20 => false
  | 21 => false
  | 22 => false
  | 23 => false
  | 24 => false
  | 25 => false
  | 26 => false
  | 27 => false
  | 28 => false
  | 29 => false
  | 30 => false
  | 31 => false
  | 32 => false
  | 33 => false
  | 34 => false
  | 35 => false
  | 36 => false
  | 37 => false
  | 38 => false
  | 39 => false
  | 40 => false
  | 41 => false
  | 42 => true
  | 43 => false
  | 44 => false
  | 45 => false
  | 46 => false
  | 47 => false
  | 48 => false
  | 49 => false
  | 50 => false
  | 51 => false
  | 52 => false
  | 53 => false
  | 54 => false
  | 55 => false
  | 56 => false
  | 57 => false
  | 58 => false
  | 59 => false
  | 60 => false
  | 61 => false
  | 62 => false
  | 63 => false
  | 64 => false
  | 65 => false
  | 66 => false
  | 67 => false
  | 68 => false
  | 69 => false
  | 70 => false
  | 71 => true
  | 72 => true
  | 73 => false
  | 74 => false
  | 75 => false
  | 76 => false
  | 77 => false
  | 78 => false
  | 79 => false
  | 80 => false
  | 81 => false
  | 82 => false
  | 83 => false
  | 84 => false
  | 85 => false
  | 86 => false
  | 87 => false
  | 88 => false
  | 89 => false
  | 90 => false
  | 91 => false
  | 92 => false
  | 93 => false
  | 94 => false
  | 95 => false
  | 96 => false
  | 97 => false
  | 98 => false
  | 99 => false
  | 100 => false
  | 101 => false
  | 102 => false
  | 103 => false
  | 104 => false
  | 105 => false
  | 106 => false
  | 107 => false
  | 108 => false
  | 109 => false
  | 110 => false
  | 111 => false
  | 112 => false
  | 113 => false
  | 114 => false
  | 115 => false
  | 116 => false
  | 117 => false
  | 118 => false
  | 119 => false
  | 120 => false
  | 121 => false
  | 122 => false
  | 123 => false
  | 124 => false
  | 125 => false
  | 126 => false
  | 127 => false
  | 128 => true
  | 129 => true
  | 130 => true
  | 131 => true
  | 132 => true
  | 133 => true
  | 134 => true
  | 135 => true
  | 136 => true
  | 137 => true
  | 138 => true
  | 139 => true
  | 140 => true
  | 141 => true
  | _ => true
def nS : Nat := 7
def sC (y : Nat) : Nat := match y with
  | 0 => 0
  | 1 => 0
  | 2 => 0
  | 3 => 1
  | 4 => 1
  | 5 => 2
  | _ => 2
def sN (y : Nat) : String := match y with
  | 0 => "BASES"
  | 1 => "LOWEST"
  | 2 => "HIGHEST"
  | 3 => "SHARPS"
  | 4 => "FLATS"
  | 5 => "SHORT"
  | _ => "LONG"
def sL (y : Nat) : Nat := match y with
  | 0 => 7
  | 1 => 3
  | 2 => 3
  | 3 => 7
  | 4 => 7
  | 5 => 9
  | _ => 9
def sV (j k : Nat) : Int := match j with
  | 0 => ([0, 2, 4, 5, 7, 9, 11] : List Int).getD k 0
  | 1 => ([60, 55, 48] : List Int).getD k 0
  | 2 => ([81, 74, 67] : List Int).getD k 0
  | 3 => ([3, 0, 4, 1, 5, 2, 6] : List Int).getD k 0
  | 4 => ([6, 2, 5, 1, 4, 0, 3] : List Int).getD k 0
  | 5 => ([0, 3, 6, 7, 65, 43, 2, 42, 4] : List Int).getD k 0
  | _ => ([53, 53, 63, 753, 653, 643, 642, 642, 54] : List Int).getD k 0
/-! the words: those of the tables that stay -/
def WA : List Cond := lw_tbl.filter goodWord
theorem WA_good : ∀ w ∈ WA, (w.onTables && w.keeps) = true ∨ ∃ ty, w = .arrayClass ty := fun w h => good_of_word (List.mem_filter.mp h).2
theorem wa_t {c : Cond} {i : Nat} (h : tables_1[i]? = some c) (hg : goodWord c = true) : c ∈ WA := List.mem_filter.mpr ⟨List.mem_append_right _ (List.mem_of_getElem? h), hg⟩
theorem tb_1 {c : Cond} (h : c ∈ tables_1_1) : c ∈ tables_1 := List.mem_append_left _ h
theorem wa_t1 {c : Cond} {i : Nat} (h : tables_1_1[i]? = some c) (hg : goodWord c = true) : c ∈ WA := List.mem_filter.mpr ⟨List.mem_append_right _ (tb_1 (List.mem_of_getElem? h)), hg⟩
theorem tb_2 {c : Cond} (h : c ∈ tables_1_2) : c ∈ tables_1 := List.mem_append_right _ (List.mem_append_left _ h)
theorem wa_t2 {c : Cond} {i : Nat} (h : tables_1_2[i]? = some c) (hg : goodWord c = true) : c ∈ WA := List.mem_filter.mpr ⟨List.mem_append_right _ (tb_2 (List.mem_of_getElem? h)), hg⟩
theorem tb_3 {c : Cond} (h : c ∈ tables_1_3) : c ∈ tables_1 := List.mem_append_right _ (List.mem_append_right _ (List.mem_append_left _ h))
theorem wa_t3 {c : Cond} {i : Nat} (h : tables_1_3[i]? = some c) (hg : goodWord c = true) : c ∈ WA := List.mem_filter.mpr ⟨List.mem_append_right _ (tb_3 (List.mem_of_getElem? h)), hg⟩
theorem tb_4 {c : Cond} (h : c ∈ tables_1_4) : c ∈ tables_1 := List.mem_append_right _ (List.mem_append_right _ (List.mem_append_right _ (List.mem_append_left _ h)))
theorem wa_t4 {c : Cond} {i : Nat} (h : tables_1_4[i]? = some c) (hg : goodWord c = true) : c ∈ WA := List.mem_filter.mpr ⟨List.mem_append_right _ (tb_4 (List.mem_of_getElem? h)), hg⟩
theorem tb_5 {c : Cond} (h : c ∈ tables_1_5) : c ∈ tables_1 := List.mem_append_right _ (List.mem_append_right _ (List.mem_append_right _ (List.mem_append_right _ h)))
theorem wa_t5 {c : Cond} {i : Nat} (h : tables_1_5[i]? = some c) (hg : goodWord c = true) : c ∈ WA := List.mem_filter.mpr ⟨List.mem_append_right _ (tb_5 (List.mem_of_getElem? h)), hg⟩
theorem wa_p {q : MethodName × Nat} {i : Nat} (h : lw_privs[i]? = some q) (hg : goodWord (Cond.selects q.1.cls q.1 q.1) = true) : Cond.selects q.1.cls q.1 q.1 ∈ WA := List.mem_filter.mpr ⟨List.mem_append_left _ (List.mem_map.mpr ⟨q, List.mem_of_getElem? h, rfl⟩), hg⟩
set_option maxRecDepth 20000 in
theorem k_0 : Cond.fieldLink "FiguredBass" 10 "FiguredBass" "scale" "LFiguredBass$Key;" ∈ WA := wa_t1 (i := 217) rfl rfl
set_option maxRecDepth 20000 in
theorem k_1 : Cond.fieldLink "FiguredBass" 18 "FiguredBass" "chords" "[LFiguredBass$Chord;" ∈ WA := wa_t1 (i := 218) rfl rfl
set_option maxRecDepth 20000 in
theorem k_2 : Cond.fieldLink "FiguredBass" 25 "FiguredBass" "realisation" "LFiguredBass$Realisation;" ∈ WA := wa_t1 (i := 219) rfl rfl
set_option maxRecDepth 20000 in
theorem k_3 : Cond.fieldLink "FiguredBass" 32 "FiguredBass" "examination" "LFiguredBass$Examination;" ∈ WA := wa_t1 (i := 220) rfl rfl
set_option maxRecDepth 20000 in
theorem k_4 : Cond.fieldLink "FiguredBass" 36 "FiguredBass" "counting" "I" ∈ WA := wa_t1 (i := 221) rfl rfl
set_option maxRecDepth 20000 in
theorem k_5 : Cond.fieldLink "FiguredBass$Key" 9 "FiguredBass$Key" "alterations" "[I" ∈ WA := wa_t1 (i := 30) rfl rfl
set_option maxRecDepth 20000 in
theorem k_6 : Cond.fieldLink "FiguredBass$Key" 15 "FiguredBass$Key" "leadingClass" "I" ∈ WA := wa_t1 (i := 31) rfl rfl
set_option maxRecDepth 20000 in
theorem k_7 : Cond.fieldLink "FiguredBass$Row" 9 "FiguredBass$Row" "numbers" "[I" ∈ WA := wa_t1 (i := 134) rfl rfl
set_option maxRecDepth 20000 in
theorem k_8 : Cond.fieldLink "FiguredBass$Row" 15 "FiguredBass$Row" "signs" "[I" ∈ WA := wa_t1 (i := 136) rfl rfl
set_option maxRecDepth 20000 in
theorem k_9 : Cond.fieldLink "FiguredBass$Row" 18 "FiguredBass$Row" "size" "I" ∈ WA := wa_t1 (i := 138) rfl rfl
set_option maxRecDepth 20000 in
theorem k_10 : Cond.fieldLink "FiguredBass$Chord" 12 "FiguredBass$Chord" "written" "LFiguredBass$Row;" ∈ WA := wa_t1 (i := 148) rfl rfl
set_option maxRecDepth 20000 in
theorem k_11 : Cond.fieldLink "FiguredBass$Chord" 18 "FiguredBass$Chord" "full" "LFiguredBass$Row;" ∈ WA := wa_t1 (i := 150) rfl rfl
set_option maxRecDepth 20000 in
theorem k_12 : Cond.fieldLink "FiguredBass$Chord" 21 "FiguredBass$Chord" "letters" "[I" ∈ WA := wa_t1 (i := 151) rfl rfl
set_option maxRecDepth 20000 in
theorem k_13 : Cond.fieldLink "FiguredBass$Chord" 25 "FiguredBass$Chord" "classes" "[I" ∈ WA := wa_t1 (i := 153) rfl rfl
set_option maxRecDepth 20000 in
theorem k_14 : Cond.fieldLink "FiguredBass$Chord" 28 "FiguredBass$Chord" "letterOfClass" "[I" ∈ WA := wa_t1 (i := 156) rfl rfl
set_option maxRecDepth 20000 in
theorem k_15 : Cond.fieldLink "FiguredBass$Chord" 31 "FiguredBass$Chord" "placed" "[I" ∈ WA := wa_t1 (i := 157) rfl rfl
set_option maxRecDepth 20000 in
theorem k_16 : Cond.fieldLink "FiguredBass$Chord" 34 "FiguredBass$Chord" "pupilSounds" "[I" ∈ WA := wa_t1 (i := 158) rfl rfl
set_option maxRecDepth 20000 in
theorem k_17 : Cond.fieldLink "FiguredBass$Chord" 37 "FiguredBass$Chord" "bassSound" "I" ∈ WA := wa_t1 (i := 162) rfl rfl
set_option maxRecDepth 20000 in
theorem k_18 : Cond.fieldLink "FiguredBass$Chord" 41 "FiguredBass$Chord" "optionalTone" "I" ∈ WA := wa_t1 (i := 166) rfl rfl
set_option maxRecDepth 20000 in
theorem k_19 : Cond.fieldLink "FiguredBass$Chord" 44 "FiguredBass$Chord" "seventhClass" "I" ∈ WA := wa_t1 (i := 171) rfl rfl
set_option maxRecDepth 20000 in
theorem k_20 : Cond.fieldLink "FiguredBass$Chord" 47 "FiguredBass$Chord" "thirdClass" "I" ∈ WA := wa_t1 (i := 173) rfl rfl
set_option maxRecDepth 20000 in
theorem k_21 : Cond.fieldLink "FiguredBass$Chord" 50 "FiguredBass$Chord" "bassLetter" "I" ∈ WA := wa_t1 (i := 160) rfl rfl
set_option maxRecDepth 20000 in
theorem k_22 : Cond.fieldLink "FiguredBass$Chord" 53 "FiguredBass$Chord" "bassAlteration" "I" ∈ WA := wa_t1 (i := 161) rfl rfl
set_option maxRecDepth 20000 in
theorem k_23 : Cond.fieldLink "FiguredBass$Chord" 64 "FiguredBass$Chord" "leadingClass" "I" ∈ WA := wa_t1 (i := 170) rfl rfl
set_option maxRecDepth 20000 in
theorem k_24 : Cond.fieldLink "FiguredBass$Chord" 65 "FiguredBass$Chord" "gathered" "Z" ∈ WA := wa_t1 (i := 179) rfl rfl
set_option maxRecDepth 20000 in
theorem k_25 : Cond.fieldLink "FiguredBass$Chord" 84 "FiguredBass$Chord" "whole" "Z" ∈ WA := wa_t1 (i := 174) rfl rfl
set_option maxRecDepth 20000 in
theorem k_26 : Cond.fieldLink "FiguredBass$Chord" 87 "FiguredBass$Chord" "toneCount" "I" ∈ WA := wa_t1 (i := 163) rfl rfl
set_option maxRecDepth 20000 in
theorem k_27 : Cond.fieldLink "FiguredBass$Chord" 133 "FiguredBass$Chord" "placementCount" "I" ∈ WA := wa_t1 (i := 178) rfl rfl
set_option maxRecDepth 20000 in
theorem k_28 : Cond.fieldLink "FiguredBass$Move" 9 "FiguredBass$Move" "from" "[I" ∈ WA := wa_t1 (i := 53) rfl rfl
set_option maxRecDepth 20000 in
theorem k_29 : Cond.fieldLink "FiguredBass$Move" 15 "FiguredBass$Move" "to" "[I" ∈ WA := wa_t1 (i := 54) rfl rfl
set_option maxRecDepth 20000 in
theorem k_30 : Cond.fieldLink "FiguredBass$Move" 18 "FiguredBass$Move" "fromLetters" "[I" ∈ WA := wa_t1 (i := 55) rfl rfl
set_option maxRecDepth 20000 in
theorem k_31 : Cond.fieldLink "FiguredBass$Move" 21 "FiguredBass$Move" "toLetters" "[I" ∈ WA := wa_t1 (i := 56) rfl rfl
set_option maxRecDepth 20000 in
theorem k_32 : Cond.fieldLink "FiguredBass$Move" 30 "FiguredBass$Move" "leadingClass" "I" ∈ WA := wa_t1 (i := 57) rfl rfl
set_option maxRecDepth 20000 in
theorem k_33 : Cond.fieldLink "FiguredBass$Move" 34 "FiguredBass$Move" "seventhClass" "I" ∈ WA := wa_t1 (i := 58) rfl rfl
set_option maxRecDepth 20000 in
theorem k_34 : Cond.fieldLink "FiguredBass$Realisation" 12 "FiguredBass$Realisation" "move" "LFiguredBass$Move;" ∈ WA := wa_t1 (i := 74) rfl rfl
set_option maxRecDepth 20000 in
theorem k_35 : Cond.fieldLink "FiguredBass$Realisation" 22 "FiguredBass$Realisation" "costToEnd" "[[I" ∈ WA := wa_t1 (i := 75) rfl rfl
set_option maxRecDepth 20000 in
theorem k_36 : Cond.fieldLink "FiguredBass$Realisation" 25 "FiguredBass$Realisation" "following" "[[I" ∈ WA := wa_t1 (i := 76) rfl rfl
set_option maxRecDepth 20000 in
theorem k_37 : Cond.fieldLink "FiguredBass$Realisation" 28 "FiguredBass$Realisation" "reached" "[Z" ∈ WA := wa_t1 (i := 77) rfl rfl
set_option maxRecDepth 20000 in
theorem k_38 : Cond.fieldLink "FiguredBass$Realisation" 32 "FiguredBass$Realisation" "reachedNext" "[Z" ∈ WA := wa_t1 (i := 78) rfl rfl
set_option maxRecDepth 20000 in
theorem k_39 : Cond.fieldLink "FiguredBass$Realisation" 35 "FiguredBass$Realisation" "chosen" "[I" ∈ WA := wa_t1 (i := 79) rfl rfl
set_option maxRecDepth 20000 in
theorem k_40 : Cond.fieldLink "FiguredBass$Realisation" 39 "FiguredBass$Realisation" "laidOut" "Z" ∈ WA := wa_t1 (i := 80) rfl rfl
set_option maxRecDepth 20000 in
theorem k_41 : Cond.fieldLink "FiguredBass$Examination" 12 "FiguredBass$Examination" "move" "LFiguredBass$Move;" ∈ WA := wa_t1 (i := 106) rfl rfl
set_option maxRecDepth 20000 in
theorem k_42 : Cond.fieldLink "FiguredBass$Examination" 18 "FiguredBass$Examination" "where" "[I" ∈ WA := wa_t1 (i := 107) rfl rfl
set_option maxRecDepth 20000 in
theorem k_43 : Cond.fieldLink "FiguredBass$Examination" 22 "FiguredBass$Examination" "kinds" "[I" ∈ WA := wa_t1 (i := 108) rfl rfl
set_option maxRecDepth 20000 in
theorem k_44 : Cond.fieldLink "FiguredBass$Examination" 25 "FiguredBass$Examination" "voices" "[I" ∈ WA := wa_t1 (i := 109) rfl rfl
set_option maxRecDepth 20000 in
theorem k_45 : Cond.fieldLink "FiguredBass$Examination" 28 "FiguredBass$Examination" "found" "I" ∈ WA := wa_t1 (i := 110) rfl rfl
set_option maxRecDepth 20000 in
theorem k_46 : Cond.fieldLink "FiguredBassModel" 7 "FiguredBassModel" "bases" "[I" ∈ WA := wa_t4 (i := 20) rfl rfl
set_option maxRecDepth 20000 in
theorem k_47 : Cond.fieldLink "FiguredBassModel" 13 "FiguredBassModel" "sharps" "[I" ∈ WA := wa_t4 (i := 21) rfl rfl
set_option maxRecDepth 20000 in
theorem k_48 : Cond.fieldLink "FiguredBassModel" 16 "FiguredBassModel" "lows" "[I" ∈ WA := wa_t4 (i := 22) rfl rfl
set_option maxRecDepth 20000 in
theorem k_49 : Cond.fieldLink "FiguredBassModel" 19 "FiguredBassModel" "highs" "[I" ∈ WA := wa_t4 (i := 23) rfl rfl
set_option maxRecDepth 20000 in
theorem k_50 : Cond.fieldLink "FiguredBassModel" 22 "FiguredBassModel" "n" "I" ∈ WA := wa_t4 (i := 26) rfl rfl
set_option maxRecDepth 20000 in
theorem k_51 : Cond.fieldLink "FiguredBassModel" 26 "FiguredBassModel" "basses" "[I" ∈ WA := wa_t4 (i := 27) rfl rfl
set_option maxRecDepth 20000 in
theorem k_52 : Cond.fieldLink "FiguredBassModel" 29 "FiguredBassModel" "letters" "[I" ∈ WA := wa_t4 (i := 28) rfl rfl
set_option maxRecDepth 20000 in
theorem k_53 : Cond.fieldLink "FiguredBassModel" 32 "FiguredBassModel" "alterations" "[I" ∈ WA := wa_t4 (i := 29) rfl rfl
set_option maxRecDepth 20000 in
theorem k_54 : Cond.fieldLink "FiguredBassModel" 35 "FiguredBassModel" "many" "[I" ∈ WA := wa_t4 (i := 30) rfl rfl
set_option maxRecDepth 20000 in
theorem k_55 : Cond.fieldLink "FiguredBassModel" 38 "FiguredBassModel" "numbers" "[I" ∈ WA := wa_t4 (i := 31) rfl rfl
set_option maxRecDepth 20000 in
theorem k_56 : Cond.fieldLink "FiguredBassModel" 41 "FiguredBassModel" "signs" "[I" ∈ WA := wa_t4 (i := 32) rfl rfl
set_option maxRecDepth 20000 in
theorem k_57 : Cond.fieldLink "FiguredBassModel" 44 "FiguredBassModel" "row" "[I" ∈ WA := wa_t4 (i := 34) rfl rfl
set_option maxRecDepth 20000 in
theorem k_58 : Cond.fieldLink "FiguredBassModel" 47 "FiguredBassModel" "rowSigns" "[I" ∈ WA := wa_t4 (i := 35) rfl rfl
set_option maxRecDepth 20000 in
theorem k_59 : Cond.fieldLink "FiguredBassModel" 50 "FiguredBassModel" "toneLetters" "[I" ∈ WA := wa_t4 (i := 37) rfl rfl
set_option maxRecDepth 20000 in
theorem k_60 : Cond.fieldLink "FiguredBassModel" 53 "FiguredBassModel" "toneClasses" "[I" ∈ WA := wa_t4 (i := 38) rfl rfl
set_option maxRecDepth 20000 in
theorem k_61 : Cond.fieldLink "FiguredBassModel" 56 "FiguredBassModel" "letterOf" "[I" ∈ WA := wa_t4 (i := 42) rfl rfl
set_option maxRecDepth 20000 in
theorem k_62 : Cond.fieldLink "FiguredBassModel" 59 "FiguredBassModel" "sevenths" "[I" ∈ WA := wa_t4 (i := 43) rfl rfl
set_option maxRecDepth 20000 in
theorem k_63 : Cond.fieldLink "FiguredBassModel" 62 "FiguredBassModel" "thirds" "[I" ∈ WA := wa_t4 (i := 44) rfl rfl
set_option maxRecDepth 20000 in
theorem k_64 : Cond.fieldLink "FiguredBassModel" 65 "FiguredBassModel" "counts" "[I" ∈ WA := wa_t4 (i := 45) rfl rfl
set_option maxRecDepth 20000 in
theorem k_65 : Cond.fieldLink "FiguredBassModel" 68 "FiguredBassModel" "first" "[I" ∈ WA := wa_t4 (i := 46) rfl rfl
set_option maxRecDepth 20000 in
theorem k_66 : Cond.fieldLink "FiguredBassModel" 71 "FiguredBassModel" "second" "[I" ∈ WA := wa_t4 (i := 47) rfl rfl
set_option maxRecDepth 20000 in
theorem k_67 : Cond.fieldLink "FiguredBassModel" 74 "FiguredBassModel" "last" "[I" ∈ WA := wa_t4 (i := 48) rfl rfl
set_option maxRecDepth 20000 in
theorem k_68 : Cond.fieldLink "FiguredBassModel" 77 "FiguredBassModel" "onward" "[I" ∈ WA := wa_t4 (i := 49) rfl rfl
set_option maxRecDepth 20000 in
theorem k_69 : Cond.fieldLink "FiguredBassModel" 80 "FiguredBassModel" "reached" "[Z" ∈ WA := wa_t4 (i := 50) rfl rfl
set_option maxRecDepth 20000 in
theorem k_70 : Cond.fieldLink "FiguredBassModel" 84 "FiguredBassModel" "laidSounds" "[I" ∈ WA := wa_t4 (i := 52) rfl rfl
set_option maxRecDepth 20000 in
theorem k_71 : Cond.fieldLink "FiguredBassModel" 87 "FiguredBassModel" "laidCosts" "[I" ∈ WA := wa_t4 (i := 53) rfl rfl
set_option maxRecDepth 20000 in
theorem k_72 : Cond.fieldLink "FiguredBassModel" 90 "FiguredBassModel" "pupils" "[I" ∈ WA := wa_t4 (i := 54) rfl rfl
set_option maxRecDepth 20000 in
theorem k_73 : Cond.fieldLink "FiguredBassModel" 93 "FiguredBassModel" "foundChord" "[I" ∈ WA := wa_t4 (i := 56) rfl rfl
set_option maxRecDepth 20000 in
theorem k_74 : Cond.fieldLink "FiguredBassModel" 96 "FiguredBassModel" "foundKind" "[I" ∈ WA := wa_t4 (i := 57) rfl rfl
set_option maxRecDepth 20000 in
theorem k_75 : Cond.fieldLink "FiguredBassModel" 99 "FiguredBassModel" "foundVoices" "[I" ∈ WA := wa_t4 (i := 58) rfl rfl
set_option maxRecDepth 20000 in
theorem k_76 : Cond.fieldLink "FiguredBassModel" 102 "FiguredBassModel" "from" "[I" ∈ WA := wa_t4 (i := 59) rfl rfl
set_option maxRecDepth 20000 in
theorem k_77 : Cond.fieldLink "FiguredBassModel" 105 "FiguredBassModel" "to" "[I" ∈ WA := wa_t4 (i := 60) rfl rfl
set_option maxRecDepth 20000 in
theorem k_78 : Cond.fieldLink "FiguredBassModel" 108 "FiguredBassModel" "thrown" "I" ∈ WA := wa_t4 (i := 19) rfl rfl
set_option maxRecDepth 20000 in
theorem k_79 : Cond.fieldLink "FiguredBassModel" 111 "FiguredBassModel" "fifths" "I" ∈ WA := wa_t4 (i := 24) rfl rfl
set_option maxRecDepth 20000 in
theorem k_80 : Cond.fieldLink "FiguredBassModel" 118 "FiguredBassModel" "minor" "Z" ∈ WA := wa_t4 (i := 25) rfl rfl
set_option maxRecDepth 20000 in
theorem k_81 : Cond.fieldLink "FiguredBassModel" 129 "FiguredBassModel" "laid" "Z" ∈ WA := wa_t4 (i := 51) rfl rfl
set_option maxRecDepth 20000 in
theorem k_82 : Cond.fieldLink "FiguredBassModel" 139 "FiguredBassModel" "size" "I" ∈ WA := wa_t4 (i := 33) rfl rfl
set_option maxRecDepth 20000 in
theorem k_83 : Cond.fieldLink "FiguredBassModel" 153 "FiguredBassModel" "tones" "I" ∈ WA := wa_t4 (i := 36) rfl rfl
set_option maxRecDepth 20000 in
theorem k_84 : Cond.fieldLink "FiguredBassModel" 163 "FiguredBassModel" "optional" "I" ∈ WA := wa_t4 (i := 39) rfl rfl
set_option maxRecDepth 20000 in
theorem k_85 : Cond.fieldLink "FiguredBassModel" 169 "FiguredBassModel" "seventh" "I" ∈ WA := wa_t4 (i := 40) rfl rfl
set_option maxRecDepth 20000 in
theorem k_86 : Cond.fieldLink "FiguredBassModel" 172 "FiguredBassModel" "third" "I" ∈ WA := wa_t4 (i := 41) rfl rfl
set_option maxRecDepth 20000 in
theorem k_87 : Cond.fieldLink "FiguredBassModel" 253 "FiguredBassModel" "found" "I" ∈ WA := wa_t4 (i := 55) rfl rfl
set_option maxRecDepth 20000 in
theorem k_88 : Cond.fieldLink "FiguredBass" 69 "FiguredBass" "BASES" "[I" ∈ WA := wa_t2 (i := 175) rfl rfl
set_option maxRecDepth 20000 in
theorem k_89 : Cond.fieldLink "FiguredBass$Key" 19 "FiguredBass$Key" "SHARPS" "[I" ∈ WA := wa_t2 (i := 73) rfl rfl
set_option maxRecDepth 20000 in
theorem k_90 : Cond.fieldLink "FiguredBass$Key" 22 "FiguredBass$Key" "FLATS" "[I" ∈ WA := wa_t2 (i := 75) rfl rfl
set_option maxRecDepth 20000 in
theorem k_91 : Cond.fieldLink "FiguredBass$Row" 40 "FiguredBass$Row" "SHORT" "[I" ∈ WA := wa_t2 (i := 106) rfl rfl
set_option maxRecDepth 20000 in
theorem k_92 : Cond.fieldLink "FiguredBass$Row" 43 "FiguredBass$Row" "LONG" "[I" ∈ WA := wa_t2 (i := 108) rfl rfl
set_option maxRecDepth 20000 in
theorem k_93 : Cond.methodLink "FiguredBass" 48 ⟨"FiguredBass$Key", "write", "(IZ)V"⟩ ∈ WA := wa_t2 (i := 69) rfl rfl
set_option maxRecDepth 20000 in
theorem k_94 : Cond.methodLink "FiguredBass" 52 ⟨"FiguredBass$Chord", "read", "(LFiguredBass$Key;)V"⟩ ∈ WA := wa_t2 (i := 82) rfl rfl
set_option maxRecDepth 20000 in
theorem k_95 : Cond.methodLink "FiguredBass" 56 ⟨"FiguredBass$Realisation", "forget", "()V"⟩ ∈ WA := wa_t2 (i := 149) rfl rfl
set_option maxRecDepth 20000 in
theorem k_96 : Cond.methodLink "FiguredBass" 61 ⟨"FiguredBass", "checkChord", "(II)V"⟩ ∈ WA := wa_t2 (i := 168) rfl rfl
set_option maxRecDepth 20000 in
theorem k_97 : Cond.methodLink "FiguredBass" 79 ⟨"FiguredBass$Chord", "writeBass", "(III)V"⟩ ∈ WA := wa_t2 (i := 179) rfl rfl
set_option maxRecDepth 20000 in
theorem k_98 : Cond.methodLink "FiguredBass" 85 ⟨"FiguredBass$Chord", "hasBass", "()Z"⟩ ∈ WA := wa_t2 (i := 193) rfl rfl
set_option maxRecDepth 20000 in
theorem k_99 : Cond.methodLink "FiguredBass" 93 ⟨"FiguredBass$Row", "takes", "(I)Z"⟩ ∈ WA := wa_t2 (i := 194) rfl rfl
set_option maxRecDepth 20000 in
theorem k_100 : Cond.methodLink "FiguredBass" 104 ⟨"FiguredBass$Row", "add", "(II)V"⟩ ∈ WA := wa_t2 (i := 214) rfl rfl
set_option maxRecDepth 20000 in
theorem k_101 : Cond.methodLink "FiguredBass" 129 ⟨"FiguredBass", "checkWhole", "(I)V"⟩ ∈ WA := wa_t3 (i := 7) rfl rfl
set_option maxRecDepth 20000 in
theorem k_102 : Cond.methodLink "FiguredBass" 133 ⟨"FiguredBass$Chord", "gather", "()V"⟩ ∈ WA := wa_t3 (i := 12) rfl rfl
set_option maxRecDepth 20000 in
theorem k_103 : Cond.methodLink "FiguredBass" 139 ⟨"FiguredBass", "checkVoice", "(II)V"⟩ ∈ WA := wa_t3 (i := 56) rfl rfl
set_option maxRecDepth 20000 in
theorem k_104 : Cond.methodLink "FiguredBass" 144 ⟨"FiguredBass$Chord", "soundOf", "(II)I"⟩ ∈ WA := wa_t3 (i := 62) rfl rfl
set_option maxRecDepth 20000 in
theorem k_105 : Cond.methodLink "FiguredBass" 148 ⟨"FiguredBass", "checkAllWhole", "()V"⟩ ∈ WA := wa_t3 (i := 73) rfl rfl
set_option maxRecDepth 20000 in
theorem k_106 : Cond.methodLink "FiguredBass" 151 ⟨"FiguredBass$Realisation", "write", "([LFiguredBass$Chord;I)I"⟩ ∈ WA := wa_t3 (i := 77) rfl rfl
set_option maxRecDepth 20000 in
theorem k_107 : Cond.methodLink "FiguredBass" 154 ⟨"FiguredBass$Realisation", "firstUnreached", "([LFiguredBass$Chord;I)I"⟩ ∈ WA := wa_t3 (i := 140) rfl rfl
set_option maxRecDepth 20000 in
theorem k_108 : Cond.methodLink "FiguredBass" 157 ⟨"FiguredBass", "checkLaidOut", "()V"⟩ ∈ WA := wa_t3 (i := 163) rfl rfl
set_option maxRecDepth 20000 in
theorem k_109 : Cond.methodLink "FiguredBass" 160 ⟨"FiguredBass$Realisation", "soundOf", "([LFiguredBass$Chord;II)I"⟩ ∈ WA := wa_t3 (i := 168) rfl rfl
set_option maxRecDepth 20000 in
theorem k_110 : Cond.methodLink "FiguredBass" 163 ⟨"FiguredBass$Realisation", "shareOf", "([LFiguredBass$Chord;I)I"⟩ ∈ WA := wa_t3 (i := 180) rfl rfl
set_option maxRecDepth 20000 in
theorem k_111 : Cond.methodLink "FiguredBass" 171 ⟨"FiguredBass$Examination", "look", "([LFiguredBass$Chord;I)I"⟩ ∈ WA := wa_t3 (i := 199) rfl rfl
set_option maxRecDepth 20000 in
theorem k_112 : Cond.methodLink "FiguredBass" 181 ⟨"FiguredBass$Examination", "answer", "(II)I"⟩ ∈ WA := wa_t4 (i := 9) rfl rfl
set_option maxRecDepth 20000 in
theorem k_113 : Cond.methodLink "FiguredBass$Key" 25 ⟨"java/lang/Math", "floorMod", "(II)I"⟩ ∈ WA := wa_t2 (i := 77) rfl rfl
set_option maxRecDepth 20000 in
theorem k_114 : Cond.methodLink "FiguredBass$Row" 22 ⟨"FiguredBass$Row", "indexOf", "(I)I"⟩ ∈ WA := wa_t2 (i := 110) rfl rfl
set_option maxRecDepth 20000 in
theorem k_115 : Cond.methodLink "FiguredBass$Row" 26 ⟨"FiguredBass$Row", "clear", "()V"⟩ ∈ WA := wa_t2 (i := 94) rfl rfl
set_option maxRecDepth 20000 in
theorem k_116 : Cond.methodLink "FiguredBass$Row" 29 ⟨"FiguredBass$Row", "longDigits", "()I"⟩ ∈ WA := wa_t2 (i := 98) rfl rfl
set_option maxRecDepth 20000 in
theorem k_117 : Cond.methodLink "FiguredBass$Row" 33 ⟨"FiguredBass$Row", "add", "(II)V"⟩ ∈ WA := wa_t2 (i := 114) rfl rfl
set_option maxRecDepth 20000 in
theorem k_118 : Cond.methodLink "FiguredBass$Row" 37 ⟨"FiguredBass$Row", "digits", "()I"⟩ ∈ WA := wa_t2 (i := 102) rfl rfl
set_option maxRecDepth 20000 in
theorem k_119 : Cond.methodLink "FiguredBass$Chord" 56 ⟨"FiguredBass$Row", "clear", "()V"⟩ ∈ WA := wa_t2 (i := 183) rfl rfl
set_option maxRecDepth 20000 in
theorem k_120 : Cond.methodLink "FiguredBass$Chord" 69 ⟨"FiguredBass$Chord", "hasBass", "()Z"⟩ ∈ WA := wa_t2 (i := 86) rfl rfl
set_option maxRecDepth 20000 in
theorem k_121 : Cond.methodLink "FiguredBass$Chord" 73 ⟨"FiguredBass$Row", "spellOut", "(LFiguredBass$Row;)V"⟩ ∈ WA := wa_t2 (i := 90) rfl rfl
set_option maxRecDepth 20000 in
theorem k_122 : Cond.methodLink "FiguredBass$Chord" 77 ⟨"FiguredBass$Chord", "readTones", "(LFiguredBass$Key;)V"⟩ ∈ WA := wa_t2 (i := 118) rfl rfl
set_option maxRecDepth 20000 in
theorem k_123 : Cond.methodLink "FiguredBass$Chord" 81 ⟨"FiguredBass$Chord", "readSeventhAndThird", "()V"⟩ ∈ WA := wa_t2 (i := 137) rfl rfl
set_option maxRecDepth 20000 in
theorem k_124 : Cond.methodLink "FiguredBass$Chord" 90 ⟨"FiguredBass$Chord", "addTone", "(II)V"⟩ ∈ WA := wa_t2 (i := 122) rfl rfl
set_option maxRecDepth 20000 in
theorem k_125 : Cond.methodLink "FiguredBass$Chord" 103 ⟨"FiguredBass$Key", "alterationOf", "(II)I"⟩ ∈ WA := wa_t2 (i := 128) rfl rfl
set_option maxRecDepth 20000 in
theorem k_126 : Cond.methodLink "FiguredBass$Chord" 107 ⟨"FiguredBass$Row", "addsOptionalFifth", "()Z"⟩ ∈ WA := wa_t2 (i := 132) rfl rfl
set_option maxRecDepth 20000 in
theorem k_127 : Cond.methodLink "FiguredBass$Chord" 110 ⟨"FiguredBass$Row", "indexOf", "(I)I"⟩ ∈ WA := wa_t2 (i := 136) rfl rfl
set_option maxRecDepth 20000 in
theorem k_128 : Cond.methodLink "FiguredBass$Chord" 117 ⟨"java/lang/Math", "floorMod", "(II)I"⟩ ∈ WA := wa_t2 (i := 127) rfl rfl
set_option maxRecDepth 20000 in
theorem k_129 : Cond.methodLink "FiguredBass$Chord" 122 ⟨"FiguredBass$Chord", "seventhTone", "()I"⟩ ∈ WA := wa_t2 (i := 141) rfl rfl
set_option maxRecDepth 20000 in
theorem k_130 : Cond.methodLink "FiguredBass$Chord" 126 ⟨"FiguredBass$Row", "has", "(I)Z"⟩ ∈ WA := wa_t2 (i := 145) rfl rfl
set_option maxRecDepth 20000 in
theorem k_131 : Cond.methodLink "FiguredBass$Chord" 130 ⟨"FiguredBass$Chord", "letterOf", "(I)I"⟩ ∈ WA := wa_t3 (i := 37) rfl rfl
set_option maxRecDepth 20000 in
theorem k_132 : Cond.methodLink "FiguredBass$Chord" 136 ⟨"FiguredBass$Chord", "neededClasses", "()I"⟩ ∈ WA := wa_t3 (i := 16) rfl rfl
set_option maxRecDepth 20000 in
theorem k_133 : Cond.methodLink "FiguredBass$Chord" 145 ⟨"java/lang/Math", "max", "(II)I"⟩ ∈ WA := wa_t3 (i := 27) rfl rfl
set_option maxRecDepth 20000 in
theorem k_134 : Cond.methodLink "FiguredBass$Chord" 148 ⟨"java/lang/Math", "min", "(II)I"⟩ ∈ WA := wa_t3 (i := 30) rfl rfl
set_option maxRecDepth 20000 in
theorem k_135 : Cond.methodLink "FiguredBass$Chord" 151 ⟨"FiguredBass$Chord", "hasTone", "(I)Z"⟩ ∈ WA := wa_t3 (i := 33) rfl rfl
set_option maxRecDepth 20000 in
theorem k_136 : Cond.methodLink "FiguredBass$Chord" 154 ⟨"FiguredBass$Chord", "gatherTenors", "(III)V"⟩ ∈ WA := wa_t3 (i := 41) rfl rfl
set_option maxRecDepth 20000 in
theorem k_137 : Cond.methodLink "FiguredBass$Chord" 158 ⟨"FiguredBass$Chord", "bit", "(I)I"⟩ ∈ WA := wa_t3 (i := 20) rfl rfl
set_option maxRecDepth 20000 in
theorem k_138 : Cond.methodLink "FiguredBass$Chord" 161 ⟨"FiguredBass$Chord", "addPlacement", "(III)V"⟩ ∈ WA := wa_t3 (i := 45) rfl rfl
set_option maxRecDepth 20000 in
theorem k_139 : Cond.methodLink "FiguredBass$Chord" 164 ⟨"FiguredBass$Chord", "soundOf", "(II)I"⟩ ∈ WA := wa_t3 (i := 93) rfl rfl
set_option maxRecDepth 20000 in
theorem k_140 : Cond.methodLink "FiguredBass$Chord" 167 ⟨"FiguredBass$Chord", "doublings", "(II)I"⟩ ∈ WA := wa_t3 (i := 89) rfl rfl
set_option maxRecDepth 20000 in
theorem k_141 : Cond.methodLink "FiguredBass$Move" 35 ⟨"FiguredBass$Chord", "soundOf", "(II)I"⟩ ∈ WA := wa_t3 (i := 98) rfl rfl
set_option maxRecDepth 20000 in
theorem k_142 : Cond.methodLink "FiguredBass$Move" 39 ⟨"FiguredBass$Chord", "letterOf", "(I)I"⟩ ∈ WA := wa_t3 (i := 99) rfl rfl
set_option maxRecDepth 20000 in
theorem k_143 : Cond.methodLink "FiguredBass$Move" 43 ⟨"java/lang/Math", "abs", "(I)I"⟩ ∈ WA := wa_t3 (i := 108) rfl rfl
set_option maxRecDepth 20000 in
theorem k_144 : Cond.methodLink "FiguredBass$Move" 48 ⟨"FiguredBass$Move", "breaksLeading", "(I)Z"⟩ ∈ WA := wa_t3 (i := 115) rfl rfl
set_option maxRecDepth 20000 in
theorem k_145 : Cond.methodLink "FiguredBass$Move" 52 ⟨"FiguredBass$Move", "breaksSeventh", "(I)Z"⟩ ∈ WA := wa_t3 (i := 119) rfl rfl
set_option maxRecDepth 20000 in
theorem k_146 : Cond.methodLink "FiguredBass$Move" 55 ⟨"FiguredBass$Move", "breaksStep", "(I)Z"⟩ ∈ WA := wa_t3 (i := 123) rfl rfl
set_option maxRecDepth 20000 in
theorem k_147 : Cond.methodLink "FiguredBass$Move" 58 ⟨"FiguredBass$Move", "breaksParallel", "(II)Z"⟩ ∈ WA := wa_t3 (i := 127) rfl rfl
set_option maxRecDepth 20000 in
theorem k_148 : Cond.methodLink "FiguredBass$Move" 62 ⟨"java/lang/Math", "floorMod", "(II)I"⟩ ∈ WA := wa_t3 (i := 131) rfl rfl
set_option maxRecDepth 20000 in
theorem k_149 : Cond.methodLink "FiguredBass$Realisation" 47 ⟨"FiguredBass$Realisation", "weigh", "([LFiguredBass$Chord;III)V"⟩ ∈ WA := wa_t3 (i := 81) rfl rfl
set_option maxRecDepth 20000 in
theorem k_150 : Cond.methodLink "FiguredBass$Realisation" 51 ⟨"FiguredBass$Realisation", "cheapest", "(I)I"⟩ ∈ WA := wa_t3 (i := 132) rfl rfl
set_option maxRecDepth 20000 in
theorem k_151 : Cond.methodLink "FiguredBass$Realisation" 55 ⟨"FiguredBass$Realisation", "choose", "(II)V"⟩ ∈ WA := wa_t3 (i := 136) rfl rfl
set_option maxRecDepth 20000 in
theorem k_152 : Cond.methodLink "FiguredBass$Realisation" 59 ⟨"FiguredBass$Chord", "fees", "(I)I"⟩ ∈ WA := wa_t3 (i := 85) rfl rfl
set_option maxRecDepth 20000 in
theorem k_153 : Cond.methodLink "FiguredBass$Realisation" 62 ⟨"FiguredBass$Move", "startAt", "(LFiguredBass$Chord;I)V"⟩ ∈ WA := wa_t3 (i := 94) rfl rfl
set_option maxRecDepth 20000 in
theorem k_154 : Cond.methodLink "FiguredBass$Realisation" 66 ⟨"FiguredBass$Move", "endAt", "(LFiguredBass$Chord;I)V"⟩ ∈ WA := wa_t3 (i := 100) rfl rfl
set_option maxRecDepth 20000 in
theorem k_155 : Cond.methodLink "FiguredBass$Realisation" 69 ⟨"FiguredBass$Move", "distance", "()I"⟩ ∈ WA := wa_t3 (i := 104) rfl rfl
set_option maxRecDepth 20000 in
theorem k_156 : Cond.methodLink "FiguredBass$Realisation" 73 ⟨"FiguredBass$Move", "keepsRules", "()Z"⟩ ∈ WA := wa_t3 (i := 111) rfl rfl
set_option maxRecDepth 20000 in
theorem k_157 : Cond.methodLink "FiguredBass$Realisation" 77 ⟨"FiguredBass$Realisation", "anyReached", "()Z"⟩ ∈ WA := wa_t3 (i := 144) rfl rfl
set_option maxRecDepth 20000 in
theorem k_158 : Cond.methodLink "FiguredBass$Realisation" 80 ⟨"FiguredBass$Realisation", "reachNext", "(LFiguredBass$Chord;LFiguredBass$Chord;)V"⟩ ∈ WA := wa_t3 (i := 148) rfl rfl
set_option maxRecDepth 20000 in
theorem k_159 : Cond.methodLink "FiguredBass$Realisation" 84 ⟨"FiguredBass$Realisation", "isReachable", "(LFiguredBass$Chord;LFiguredBass$Chord;I)Z"⟩ ∈ WA := wa_t3 (i := 152) rfl rfl
set_option maxRecDepth 20000 in
theorem k_160 : Cond.methodLink "FiguredBass$Realisation" 88 ⟨"FiguredBass$Chord", "soundOf", "(II)I"⟩ ∈ WA := wa_t3 (i := 172) rfl rfl
set_option maxRecDepth 20000 in
theorem k_161 : Cond.methodLink "FiguredBass$Examination" 32 ⟨"FiguredBass$Examination", "lookAtVoices", "(LFiguredBass$Chord;I)V"⟩ ∈ WA := wa_t3 (i := 203) rfl rfl
set_option maxRecDepth 20000 in
theorem k_162 : Cond.methodLink "FiguredBass$Examination" 38 ⟨"FiguredBass$Move", "startAt", "(LFiguredBass$Chord;I)V"⟩ ∈ WA := wa_t3 (i := 223) rfl rfl
set_option maxRecDepth 20000 in
theorem k_163 : Cond.methodLink "FiguredBass$Examination" 41 ⟨"FiguredBass$Move", "endAt", "(LFiguredBass$Chord;I)V"⟩ ∈ WA := wa_t3 (i := 224) rfl rfl
set_option maxRecDepth 20000 in
theorem k_164 : Cond.methodLink "FiguredBass$Examination" 44 ⟨"FiguredBass$Examination", "lookAtMove", "(I)V"⟩ ∈ WA := wa_t3 (i := 225) rfl rfl
set_option maxRecDepth 20000 in
theorem k_165 : Cond.methodLink "FiguredBass$Examination" 48 ⟨"FiguredBass$Examination", "lookForMissingTones", "(LFiguredBass$Chord;I)V"⟩ ∈ WA := wa_t3 (i := 233) rfl rfl
set_option maxRecDepth 20000 in
theorem k_166 : Cond.methodLink "FiguredBass$Examination" 51 ⟨"FiguredBass$Chord", "soundOf", "(II)I"⟩ ∈ WA := wa_t3 (i := 207) rfl rfl
set_option maxRecDepth 20000 in
theorem k_167 : Cond.methodLink "FiguredBass$Examination" 61 ⟨"FiguredBass$Examination", "addIf", "(ZIII)V"⟩ ∈ WA := wa_t3 (i := 210) rfl rfl
set_option maxRecDepth 20000 in
theorem k_168 : Cond.methodLink "FiguredBass$Examination" 65 ⟨"FiguredBass$Chord", "pupilGap", "(I)I"⟩ ∈ WA := wa_t3 (i := 214) rfl rfl
set_option maxRecDepth 20000 in
theorem k_169 : Cond.methodLink "FiguredBass$Examination" 69 ⟨"FiguredBass$Examination", "pair", "(II)I"⟩ ∈ WA := wa_t3 (i := 218) rfl rfl
set_option maxRecDepth 20000 in
theorem k_170 : Cond.methodLink "FiguredBass$Examination" 72 ⟨"java/lang/Math", "abs", "(I)I"⟩ ∈ WA := wa_t3 (i := 221) rfl rfl
set_option maxRecDepth 20000 in
theorem k_171 : Cond.methodLink "FiguredBass$Examination" 77 ⟨"FiguredBass$Chord", "hasTone", "(I)Z"⟩ ∈ WA := wa_t3 (i := 222) rfl rfl
set_option maxRecDepth 20000 in
theorem k_172 : Cond.methodLink "FiguredBass$Examination" 81 ⟨"FiguredBass$Move", "breaksParallel", "(II)Z"⟩ ∈ WA := wa_t3 (i := 229) rfl rfl
set_option maxRecDepth 20000 in
theorem k_173 : Cond.methodLink "FiguredBass$Examination" 85 ⟨"FiguredBass$Move", "breaksLeading", "(I)Z"⟩ ∈ WA := wa_t3 (i := 230) rfl rfl
set_option maxRecDepth 20000 in
theorem k_174 : Cond.methodLink "FiguredBass$Examination" 88 ⟨"FiguredBass$Move", "breaksSeventh", "(I)Z"⟩ ∈ WA := wa_t3 (i := 231) rfl rfl
set_option maxRecDepth 20000 in
theorem k_175 : Cond.methodLink "FiguredBass$Examination" 91 ⟨"FiguredBass$Move", "breaksStep", "(I)Z"⟩ ∈ WA := wa_t3 (i := 232) rfl rfl
set_option maxRecDepth 20000 in
theorem k_176 : Cond.methodLink "FiguredBass$Examination" 103 ⟨"FiguredBass$Examination", "isSung", "(LFiguredBass$Chord;I)Z"⟩ ∈ WA := wa_t3 (i := 237) rfl rfl
set_option maxRecDepth 20000 in
theorem k_177 : Cond.methodLink "FiguredBassModel" 114 ⟨"FiguredBassModel", "modulo", "(II)I"⟩ ∈ WA := wa_t4 (i := 206) rfl rfl
set_option maxRecDepth 20000 in
theorem k_178 : Cond.methodLink "FiguredBassModel" 122 ⟨"FiguredBassModel", "keyAlteration", "(I)I"⟩ ∈ WA := wa_t4 (i := 210) rfl rfl
set_option maxRecDepth 20000 in
theorem k_179 : Cond.methodLink "FiguredBassModel" 126 ⟨"FiguredBassModel", "classOf", "(II)I"⟩ ∈ WA := wa_t4 (i := 202) rfl rfl
set_option maxRecDepth 20000 in
theorem k_180 : Cond.methodLink "FiguredBassModel" 132 ⟨"FiguredBassModel", "noChord", "(I)Z"⟩ ∈ WA := wa_t4 (i := 162) rfl rfl
set_option maxRecDepth 20000 in
theorem k_181 : Cond.methodLink "FiguredBassModel" 136 ⟨"FiguredBassModel", "written", "(II)I"⟩ ∈ WA := wa_t4 (i := 194) rfl rfl
set_option maxRecDepth 20000 in
theorem k_182 : Cond.methodLink "FiguredBassModel" 142 ⟨"FiguredBassModel", "put", "(II)V"⟩ ∈ WA := wa_t4 (i := 190) rfl rfl
set_option maxRecDepth 20000 in
theorem k_183 : Cond.methodLink "FiguredBassModel" 146 ⟨"FiguredBassModel", "digitsOf", "(I)I"⟩ ∈ WA := wa_t4 (i := 182) rfl rfl
set_option maxRecDepth 20000 in
theorem k_184 : Cond.methodLink "FiguredBassModel" 149 ⟨"FiguredBassModel", "putAll", "(IIII)V"⟩ ∈ WA := wa_t4 (i := 186) rfl rfl
set_option maxRecDepth 20000 in
theorem k_185 : Cond.methodLink "FiguredBassModel" 156 ⟨"FiguredBassModel", "unfold", "(I)V"⟩ ∈ WA := wa_t4 (i := 178) rfl rfl
set_option maxRecDepth 20000 in
theorem k_186 : Cond.methodLink "FiguredBassModel" 160 ⟨"FiguredBassModel", "addTone", "(II)V"⟩ ∈ WA := wa_t4 (i := 198) rfl rfl
set_option maxRecDepth 20000 in
theorem k_187 : Cond.methodLink "FiguredBassModel" 166 ⟨"FiguredBassModel", "classIn", "(I)I"⟩ ∈ WA := wa_t4 (i := 214) rfl rfl
set_option maxRecDepth 20000 in
theorem k_188 : Cond.methodLink "FiguredBassModel" 175 ⟨"FiguredBassModel", "look", "(I)V"⟩ ∈ WA := wa_t4 (i := 174) rfl rfl
set_option maxRecDepth 20000 in
theorem k_189 : Cond.methodLink "FiguredBassModel" 178 ⟨"FiguredBassModel", "toneOf", "(I)I"⟩ ∈ WA := wa_t4 (i := 230) rfl rfl
set_option maxRecDepth 20000 in
theorem k_190 : Cond.methodLink "FiguredBassModel" 181 ⟨"FiguredBassModel", "hasAll", "(III)Z"⟩ ∈ WA := wa_t4 (i := 234) rfl rfl
set_option maxRecDepth 20000 in
theorem k_191 : Cond.methodLink "FiguredBassModel" 185 ⟨"FiguredBassModel", "isWhole", "(I)Z"⟩ ∈ WA := wa_t4 (i := 222) rfl rfl
set_option maxRecDepth 20000 in
theorem k_192 : Cond.methodLink "FiguredBassModel" 188 ⟨"FiguredBassModel", "writePlaces", "(I)V"⟩ ∈ WA := wa_t4 (i := 226) rfl rfl
set_option maxRecDepth 20000 in
theorem k_193 : Cond.methodLink "FiguredBassModel" 191 ⟨"FiguredBassModel", "apart", "(II)I"⟩ ∈ WA := wa_t5 (i := 59) rfl rfl
set_option maxRecDepth 20000 in
theorem k_194 : Cond.methodLink "FiguredBassModel" 194 ⟨"FiguredBassModel", "leading", "()I"⟩ ∈ WA := wa_t5 (i := 22) rfl rfl
set_option maxRecDepth 20000 in
theorem k_195 : Cond.methodLink "FiguredBassModel" 198 ⟨"FiguredBassModel", "breaksLeading", "(I)Z"⟩ ∈ WA := wa_t5 (i := 43) rfl rfl
set_option maxRecDepth 20000 in
theorem k_196 : Cond.methodLink "FiguredBassModel" 201 ⟨"FiguredBassModel", "breaksSeventh", "(II)Z"⟩ ∈ WA := wa_t5 (i := 47) rfl rfl
set_option maxRecDepth 20000 in
theorem k_197 : Cond.methodLink "FiguredBassModel" 205 ⟨"FiguredBassModel", "breaksStep", "(II)Z"⟩ ∈ WA := wa_t5 (i := 51) rfl rfl
set_option maxRecDepth 20000 in
theorem k_198 : Cond.methodLink "FiguredBassModel" 208 ⟨"FiguredBassModel", "isParallel", "(II)Z"⟩ ∈ WA := wa_t5 (i := 55) rfl rfl
set_option maxRecDepth 20000 in
theorem k_199 : Cond.methodLink "FiguredBassModel" 211 ⟨"FiguredBassModel", "fee", "(II)I"⟩ ∈ WA := wa_t5 (i := 26) rfl rfl
set_option maxRecDepth 20000 in
theorem k_200 : Cond.methodLink "FiguredBassModel" 214 ⟨"FiguredBassModel", "load", "(II)V"⟩ ∈ WA := wa_t5 (i := 14) rfl rfl
set_option maxRecDepth 20000 in
theorem k_201 : Cond.methodLink "FiguredBassModel" 217 ⟨"FiguredBassModel", "fees", "(I)I"⟩ ∈ WA := wa_t5 (i := 18) rfl rfl
set_option maxRecDepth 20000 in
theorem k_202 : Cond.methodLink "FiguredBassModel" 221 ⟨"FiguredBassModel", "loadNext", "(II)V"⟩ ∈ WA := wa_t5 (i := 31) rfl rfl
set_option maxRecDepth 20000 in
theorem k_203 : Cond.methodLink "FiguredBassModel" 224 ⟨"FiguredBassModel", "way", "(I)I"⟩ ∈ WA := wa_t5 (i := 35) rfl rfl
set_option maxRecDepth 20000 in
theorem k_204 : Cond.methodLink "FiguredBassModel" 227 ⟨"FiguredBassModel", "keeps", "(I)Z"⟩ ∈ WA := wa_t5 (i := 39) rfl rfl
set_option maxRecDepth 20000 in
theorem k_205 : Cond.methodLink "FiguredBassModel" 230 ⟨"FiguredBassModel", "goForth", "(I)V"⟩ ∈ WA := wa_t5 (i := 67) rfl rfl
set_option maxRecDepth 20000 in
theorem k_206 : Cond.methodLink "FiguredBassModel" 233 ⟨"FiguredBassModel", "lookAll", "(Z)Z"⟩ ∈ WA := wa_t5 (i := 6) rfl rfl
set_option maxRecDepth 20000 in
theorem k_207 : Cond.methodLink "FiguredBassModel" 237 ⟨"FiguredBassModel", "goBack", "(I)V"⟩ ∈ WA := wa_t5 (i := 10) rfl rfl
set_option maxRecDepth 20000 in
theorem k_208 : Cond.methodLink "FiguredBassModel" 240 ⟨"FiguredBassModel", "barred", "()I"⟩ ∈ WA := wa_t5 (i := 63) rfl rfl
set_option maxRecDepth 20000 in
theorem k_209 : Cond.methodLink "FiguredBassModel" 243 ⟨"FiguredBassModel", "lay", "(III)V"⟩ ∈ WA := wa_t5 (i := 71) rfl rfl
set_option maxRecDepth 20000 in
theorem k_210 : Cond.methodLink "FiguredBassModel" 247 ⟨"FiguredBassModel", "follow", "(II)I"⟩ ∈ WA := wa_t5 (i := 75) rfl rfl
set_option maxRecDepth 20000 in
theorem k_211 : Cond.methodLink "FiguredBassModel" 250 ⟨"FiguredBassModel", "noVoice", "(II)Z"⟩ ∈ WA := wa_t5 (i := 83) rfl rfl
set_option maxRecDepth 20000 in
theorem k_212 : Cond.methodLink "FiguredBassModel" 256 ⟨"FiguredBassModel", "mark", "(IIIZ)V"⟩ ∈ WA := wa_t5 (i := 107) rfl rfl
set_option maxRecDepth 20000 in
theorem k_213 : Cond.methodLink "FiguredBassModel" 260 ⟨"FiguredBassModel", "loadPupil", "(I)V"⟩ ∈ WA := wa_t5 (i := 99) rfl rfl
set_option maxRecDepth 20000 in
theorem k_214 : Cond.methodLink "FiguredBassModel" 263 ⟨"FiguredBassModel", "markOne", "(I)V"⟩ ∈ WA := wa_t5 (i := 103) rfl rfl
set_option maxRecDepth 20000 in
theorem k_215 : Cond.methodLink "FiguredBassModel" 266 ⟨"FiguredBassModel", "markRules", "(I)V"⟩ ∈ WA := wa_t5 (i := 111) rfl rfl
set_option maxRecDepth 20000 in
theorem k_216 : Cond.methodLink "FiguredBassModel" 269 ⟨"FiguredBassModel", "markTones", "(I)V"⟩ ∈ WA := wa_t5 (i := 115) rfl rfl
set_option maxRecDepth 20000 in
theorem k_217 : Cond.methodLink "FiguredBassLaw" 7 ⟨"FiguredBass", "key", "(IZ)V"⟩ ∈ WA := wa_t1 (i := 237) rfl rfl
set_option maxRecDepth 20000 in
theorem k_218 : Cond.methodLink "FiguredBassLaw" 15 ⟨"FiguredBass", "length", "(I)V"⟩ ∈ WA := wa_t2 (i := 156) rfl rfl
set_option maxRecDepth 20000 in
theorem k_219 : Cond.methodLink "FiguredBassLaw" 19 ⟨"FiguredBass", "bass", "(IIII)I"⟩ ∈ WA := wa_t2 (i := 164) rfl rfl
set_option maxRecDepth 20000 in
theorem k_220 : Cond.methodLink "FiguredBassLaw" 23 ⟨"FiguredBass", "figure", "(III)I"⟩ ∈ WA := wa_t2 (i := 188) rfl rfl
set_option maxRecDepth 20000 in
theorem k_221 : Cond.methodLink "FiguredBassLaw" 29 ⟨"FiguredBass", "spell", "(II)I"⟩ ∈ WA := wa_t2 (i := 219) rfl rfl
set_option maxRecDepth 20000 in
theorem k_222 : Cond.methodLink "FiguredBassLaw" 35 ⟨"FiguredBass", "places", "(I)I"⟩ ∈ WA := wa_t3 (i := 3) rfl rfl
set_option maxRecDepth 20000 in
theorem k_223 : Cond.methodLink "FiguredBassLaw" 39 ⟨"FiguredBass", "place", "(III)I"⟩ ∈ WA := wa_t3 (i := 52) rfl rfl
set_option maxRecDepth 20000 in
theorem k_224 : Cond.methodLink "FiguredBassLaw" 42 ⟨"FiguredBass", "realise", "()I"⟩ ∈ WA := wa_t3 (i := 69) rfl rfl
set_option maxRecDepth 20000 in
theorem k_225 : Cond.methodLink "FiguredBassLaw" 46 ⟨"FiguredBass", "note", "(II)I"⟩ ∈ WA := wa_t3 (i := 159) rfl rfl
set_option maxRecDepth 20000 in
theorem k_226 : Cond.methodLink "FiguredBassLaw" 49 ⟨"FiguredBass", "cost", "(I)I"⟩ ∈ WA := wa_t3 (i := 176) rfl rfl
set_option maxRecDepth 20000 in
theorem k_227 : Cond.methodLink "FiguredBassLaw" 52 ⟨"FiguredBass", "pupil", "(III)V"⟩ ∈ WA := wa_t3 (i := 187) rfl rfl
set_option maxRecDepth 20000 in
theorem k_228 : Cond.methodLink "FiguredBassLaw" 56 ⟨"FiguredBass", "faults", "()I"⟩ ∈ WA := wa_t3 (i := 195) rfl rfl
set_option maxRecDepth 20000 in
theorem k_229 : Cond.methodLink "FiguredBassLaw" 59 ⟨"FiguredBass", "fault", "(II)I"⟩ ∈ WA := wa_t4 (i := 3) rfl rfl
set_option maxRecDepth 20000 in
theorem k_230 : Cond.methodLink "FiguredBassLaw" 71 ⟨"FiguredBassModel", "key", "(IZ)V"⟩ ∈ WA := wa_t4 (i := 150) rfl rfl
set_option maxRecDepth 20000 in
theorem k_231 : Cond.methodLink "FiguredBassLaw" 72 ⟨"FiguredBassModel", "thrown", "()I"⟩ ∈ WA := wa_t4 (i := 146) rfl rfl
set_option maxRecDepth 20000 in
theorem k_232 : Cond.methodLink "FiguredBassLaw" 78 ⟨"FiguredBassModel", "length", "(I)V"⟩ ∈ WA := wa_t4 (i := 154) rfl rfl
set_option maxRecDepth 20000 in
theorem k_233 : Cond.methodLink "FiguredBassLaw" 82 ⟨"FiguredBassModel", "bass", "(IIII)I"⟩ ∈ WA := wa_t4 (i := 158) rfl rfl
set_option maxRecDepth 20000 in
theorem k_234 : Cond.methodLink "FiguredBassLaw" 86 ⟨"FiguredBassModel", "figure", "(III)I"⟩ ∈ WA := wa_t4 (i := 166) rfl rfl
set_option maxRecDepth 20000 in
theorem k_235 : Cond.methodLink "FiguredBassLaw" 90 ⟨"FiguredBassModel", "spell", "(II)I"⟩ ∈ WA := wa_t4 (i := 170) rfl rfl
set_option maxRecDepth 20000 in
theorem k_236 : Cond.methodLink "FiguredBassLaw" 94 ⟨"FiguredBassModel", "places", "(I)I"⟩ ∈ WA := wa_t4 (i := 218) rfl rfl
set_option maxRecDepth 20000 in
theorem k_237 : Cond.methodLink "FiguredBassLaw" 97 ⟨"FiguredBassModel", "place", "(III)I"⟩ ∈ WA := wa_t4 (i := 238) rfl rfl
set_option maxRecDepth 20000 in
theorem k_238 : Cond.methodLink "FiguredBassLaw" 101 ⟨"FiguredBassModel", "realise", "()I"⟩ ∈ WA := wa_t5 (i := 2) rfl rfl
set_option maxRecDepth 20000 in
theorem k_239 : Cond.methodLink "FiguredBassLaw" 104 ⟨"FiguredBassModel", "note", "(II)I"⟩ ∈ WA := wa_t5 (i := 79) rfl rfl
set_option maxRecDepth 20000 in
theorem k_240 : Cond.methodLink "FiguredBassLaw" 107 ⟨"FiguredBassModel", "cost", "(I)I"⟩ ∈ WA := wa_t5 (i := 87) rfl rfl
set_option maxRecDepth 20000 in
theorem k_241 : Cond.methodLink "FiguredBassLaw" 111 ⟨"FiguredBassModel", "pupil", "(III)V"⟩ ∈ WA := wa_t5 (i := 91) rfl rfl
set_option maxRecDepth 20000 in
theorem k_242 : Cond.methodLink "FiguredBassLaw" 114 ⟨"FiguredBassModel", "faults", "()I"⟩ ∈ WA := wa_t5 (i := 95) rfl rfl
set_option maxRecDepth 20000 in
theorem k_243 : Cond.methodLink "FiguredBassLaw" 117 ⟨"FiguredBassModel", "fault", "(II)I"⟩ ∈ WA := wa_t5 (i := 119) rfl rfl
set_option maxRecDepth 20000 in
theorem k_244 : Cond.code ⟨"FiguredBass", "key", "(IZ)V"⟩ prog_1_method_2_code 4 (none) ∈ WA := wa_t2 (i := 0) rfl rfl
set_option maxRecDepth 20000 in
theorem k_245 : Cond.initialized "FiguredBass" ∈ WA := wa_t1 (i := 1) rfl rfl
set_option maxRecDepth 20000 in
theorem k_246 : Cond.instanceMethod ⟨"FiguredBass", "key", "(IZ)V"⟩ ∈ WA := wa_t1 (i := 238) rfl rfl
set_option maxRecDepth 20000 in
theorem k_247 : Cond.selects "FiguredBass" ⟨"FiguredBass", "key", "(IZ)V"⟩ ⟨"FiguredBass", "key", "(IZ)V"⟩ ∈ WA := wa_t1 (i := 239) rfl rfl
set_option maxRecDepth 20000 in
theorem k_248 : Cond.code ⟨"FiguredBass", "length", "(I)V"⟩ prog_1_method_3_code 2 (none) ∈ WA := wa_t2 (i := 159) rfl rfl
set_option maxRecDepth 20000 in
theorem k_249 : Cond.instanceMethod ⟨"FiguredBass", "length", "(I)V"⟩ ∈ WA := wa_t2 (i := 157) rfl rfl
set_option maxRecDepth 20000 in
theorem k_250 : Cond.selects "FiguredBass" ⟨"FiguredBass", "length", "(I)V"⟩ ⟨"FiguredBass", "length", "(I)V"⟩ ∈ WA := wa_t2 (i := 158) rfl rfl
set_option maxRecDepth 20000 in
theorem k_251 : Cond.code ⟨"FiguredBass", "bass", "(IIII)I"⟩ prog_1_method_4_code 7 (some .int) ∈ WA := wa_t2 (i := 167) rfl rfl
set_option maxRecDepth 20000 in
theorem k_252 : Cond.instanceMethod ⟨"FiguredBass", "bass", "(IIII)I"⟩ ∈ WA := wa_t2 (i := 165) rfl rfl
set_option maxRecDepth 20000 in
theorem k_253 : Cond.selects "FiguredBass" ⟨"FiguredBass", "bass", "(IIII)I"⟩ ⟨"FiguredBass", "bass", "(IIII)I"⟩ ∈ WA := wa_t2 (i := 166) rfl rfl
set_option maxRecDepth 20000 in
theorem k_254 : Cond.code ⟨"FiguredBass", "figure", "(III)I"⟩ prog_1_method_5_code 5 (some .int) ∈ WA := wa_t2 (i := 191) rfl rfl
set_option maxRecDepth 20000 in
theorem k_255 : Cond.instanceMethod ⟨"FiguredBass", "figure", "(III)I"⟩ ∈ WA := wa_t2 (i := 189) rfl rfl
set_option maxRecDepth 20000 in
theorem k_256 : Cond.selects "FiguredBass" ⟨"FiguredBass", "figure", "(III)I"⟩ ⟨"FiguredBass", "figure", "(III)I"⟩ ∈ WA := wa_t2 (i := 190) rfl rfl
set_option maxRecDepth 20000 in
theorem k_257 : Cond.code ⟨"FiguredBass", "spell", "(II)I"⟩ prog_1_method_6_code 5 (some .int) ∈ WA := wa_t2 (i := 222) rfl rfl
set_option maxRecDepth 20000 in
theorem k_258 : Cond.instanceMethod ⟨"FiguredBass", "spell", "(II)I"⟩ ∈ WA := wa_t2 (i := 220) rfl rfl
set_option maxRecDepth 20000 in
theorem k_259 : Cond.selects "FiguredBass" ⟨"FiguredBass", "spell", "(II)I"⟩ ⟨"FiguredBass", "spell", "(II)I"⟩ ∈ WA := wa_t2 (i := 221) rfl rfl
set_option maxRecDepth 20000 in
theorem k_260 : Cond.code ⟨"FiguredBass", "places", "(I)I"⟩ prog_1_method_7_code 2 (some .int) ∈ WA := wa_t3 (i := 6) rfl rfl
set_option maxRecDepth 20000 in
theorem k_261 : Cond.instanceMethod ⟨"FiguredBass", "places", "(I)I"⟩ ∈ WA := wa_t3 (i := 4) rfl rfl
set_option maxRecDepth 20000 in
theorem k_262 : Cond.selects "FiguredBass" ⟨"FiguredBass", "places", "(I)I"⟩ ⟨"FiguredBass", "places", "(I)I"⟩ ∈ WA := wa_t3 (i := 5) rfl rfl
set_option maxRecDepth 20000 in
theorem k_263 : Cond.code ⟨"FiguredBass", "place", "(III)I"⟩ prog_1_method_8_code 4 (some .int) ∈ WA := wa_t3 (i := 55) rfl rfl
set_option maxRecDepth 20000 in
theorem k_264 : Cond.instanceMethod ⟨"FiguredBass", "place", "(III)I"⟩ ∈ WA := wa_t3 (i := 53) rfl rfl
set_option maxRecDepth 20000 in
theorem k_265 : Cond.selects "FiguredBass" ⟨"FiguredBass", "place", "(III)I"⟩ ⟨"FiguredBass", "place", "(III)I"⟩ ∈ WA := wa_t3 (i := 54) rfl rfl
set_option maxRecDepth 20000 in
theorem k_266 : Cond.code ⟨"FiguredBass", "realise", "()I"⟩ prog_1_method_9_code 2 (some .int) ∈ WA := wa_t3 (i := 72) rfl rfl
set_option maxRecDepth 20000 in
theorem k_267 : Cond.instanceMethod ⟨"FiguredBass", "realise", "()I"⟩ ∈ WA := wa_t3 (i := 70) rfl rfl
set_option maxRecDepth 20000 in
theorem k_268 : Cond.selects "FiguredBass" ⟨"FiguredBass", "realise", "()I"⟩ ⟨"FiguredBass", "realise", "()I"⟩ ∈ WA := wa_t3 (i := 71) rfl rfl
set_option maxRecDepth 20000 in
theorem k_269 : Cond.code ⟨"FiguredBass", "note", "(II)I"⟩ prog_1_method_10_code 3 (some .int) ∈ WA := wa_t3 (i := 162) rfl rfl
set_option maxRecDepth 20000 in
theorem k_270 : Cond.instanceMethod ⟨"FiguredBass", "note", "(II)I"⟩ ∈ WA := wa_t3 (i := 160) rfl rfl
set_option maxRecDepth 20000 in
theorem k_271 : Cond.selects "FiguredBass" ⟨"FiguredBass", "note", "(II)I"⟩ ⟨"FiguredBass", "note", "(II)I"⟩ ∈ WA := wa_t3 (i := 161) rfl rfl
set_option maxRecDepth 20000 in
theorem k_272 : Cond.code ⟨"FiguredBass", "cost", "(I)I"⟩ prog_1_method_11_code 2 (some .int) ∈ WA := wa_t3 (i := 179) rfl rfl
set_option maxRecDepth 20000 in
theorem k_273 : Cond.instanceMethod ⟨"FiguredBass", "cost", "(I)I"⟩ ∈ WA := wa_t3 (i := 177) rfl rfl
set_option maxRecDepth 20000 in
theorem k_274 : Cond.selects "FiguredBass" ⟨"FiguredBass", "cost", "(I)I"⟩ ⟨"FiguredBass", "cost", "(I)I"⟩ ∈ WA := wa_t3 (i := 178) rfl rfl
set_option maxRecDepth 20000 in
theorem k_275 : Cond.code ⟨"FiguredBass", "pupil", "(III)V"⟩ prog_1_method_12_code 4 (none) ∈ WA := wa_t3 (i := 190) rfl rfl
set_option maxRecDepth 20000 in
theorem k_276 : Cond.instanceMethod ⟨"FiguredBass", "pupil", "(III)V"⟩ ∈ WA := wa_t3 (i := 188) rfl rfl
set_option maxRecDepth 20000 in
theorem k_277 : Cond.selects "FiguredBass" ⟨"FiguredBass", "pupil", "(III)V"⟩ ⟨"FiguredBass", "pupil", "(III)V"⟩ ∈ WA := wa_t3 (i := 189) rfl rfl
set_option maxRecDepth 20000 in
theorem k_278 : Cond.code ⟨"FiguredBass", "faults", "()I"⟩ prog_1_method_13_code 1 (some .int) ∈ WA := wa_t3 (i := 198) rfl rfl
set_option maxRecDepth 20000 in
theorem k_279 : Cond.instanceMethod ⟨"FiguredBass", "faults", "()I"⟩ ∈ WA := wa_t3 (i := 196) rfl rfl
set_option maxRecDepth 20000 in
theorem k_280 : Cond.selects "FiguredBass" ⟨"FiguredBass", "faults", "()I"⟩ ⟨"FiguredBass", "faults", "()I"⟩ ∈ WA := wa_t3 (i := 197) rfl rfl
set_option maxRecDepth 20000 in
theorem k_281 : Cond.code ⟨"FiguredBass", "fault", "(II)I"⟩ prog_1_method_14_code 3 (some .int) ∈ WA := wa_t4 (i := 6) rfl rfl
set_option maxRecDepth 20000 in
theorem k_282 : Cond.instanceMethod ⟨"FiguredBass", "fault", "(II)I"⟩ ∈ WA := wa_t4 (i := 4) rfl rfl
set_option maxRecDepth 20000 in
theorem k_283 : Cond.selects "FiguredBass" ⟨"FiguredBass", "fault", "(II)I"⟩ ⟨"FiguredBass", "fault", "(II)I"⟩ ∈ WA := wa_t4 (i := 5) rfl rfl
set_option maxRecDepth 20000 in
theorem k_284 : Cond.code ⟨"FiguredBass", "checkChord", "(II)V"⟩ prog_1_method_15_code 3 (none) ∈ WA := wa_t2 (i := 171) rfl rfl
set_option maxRecDepth 20000 in
theorem k_285 : Cond.instanceMethod ⟨"FiguredBass", "checkChord", "(II)V"⟩ ∈ WA := wa_t2 (i := 170) rfl rfl
theorem k_286 : Cond.selects "FiguredBass" ⟨"FiguredBass", "checkChord", "(II)V"⟩ ⟨"FiguredBass", "checkChord", "(II)V"⟩ ∈ WA := wa_p (i := 7) rfl rfl
set_option maxRecDepth 20000 in
theorem k_287 : Cond.code ⟨"FiguredBass", "checkVoice", "(II)V"⟩ prog_1_method_16_code 3 (none) ∈ WA := wa_t3 (i := 59) rfl rfl
set_option maxRecDepth 20000 in
theorem k_288 : Cond.instanceMethod ⟨"FiguredBass", "checkVoice", "(II)V"⟩ ∈ WA := wa_t3 (i := 58) rfl rfl
theorem k_289 : Cond.selects "FiguredBass" ⟨"FiguredBass", "checkVoice", "(II)V"⟩ ⟨"FiguredBass", "checkVoice", "(II)V"⟩ ∈ WA := wa_p (i := 12) rfl rfl
set_option maxRecDepth 20000 in
theorem k_290 : Cond.code ⟨"FiguredBass", "checkWhole", "(I)V"⟩ prog_1_method_17_code 2 (none) ∈ WA := wa_t3 (i := 10) rfl rfl
set_option maxRecDepth 20000 in
theorem k_291 : Cond.instanceMethod ⟨"FiguredBass", "checkWhole", "(I)V"⟩ ∈ WA := wa_t3 (i := 9) rfl rfl
theorem k_292 : Cond.selects "FiguredBass" ⟨"FiguredBass", "checkWhole", "(I)V"⟩ ⟨"FiguredBass", "checkWhole", "(I)V"⟩ ∈ WA := wa_p (i := 8) rfl rfl
set_option maxRecDepth 20000 in
theorem k_293 : Cond.code ⟨"FiguredBass", "checkAllWhole", "()V"⟩ prog_1_method_18_code 2 (none) ∈ WA := wa_t3 (i := 76) rfl rfl
set_option maxRecDepth 20000 in
theorem k_294 : Cond.instanceMethod ⟨"FiguredBass", "checkAllWhole", "()V"⟩ ∈ WA := wa_t3 (i := 75) rfl rfl
theorem k_295 : Cond.selects "FiguredBass" ⟨"FiguredBass", "checkAllWhole", "()V"⟩ ⟨"FiguredBass", "checkAllWhole", "()V"⟩ ∈ WA := wa_p (i := 13) rfl rfl
set_option maxRecDepth 20000 in
theorem k_296 : Cond.code ⟨"FiguredBass", "checkLaidOut", "()V"⟩ prog_1_method_19_code 1 (none) ∈ WA := wa_t3 (i := 166) rfl rfl
set_option maxRecDepth 20000 in
theorem k_297 : Cond.instanceMethod ⟨"FiguredBass", "checkLaidOut", "()V"⟩ ∈ WA := wa_t3 (i := 165) rfl rfl
theorem k_298 : Cond.selects "FiguredBass" ⟨"FiguredBass", "checkLaidOut", "()V"⟩ ⟨"FiguredBass", "checkLaidOut", "()V"⟩ ∈ WA := wa_p (i := 21) rfl rfl
set_option maxRecDepth 20000 in
theorem k_299 : Cond.code ⟨"FiguredBass$Key", "write", "(IZ)V"⟩ prog_4_method_2_code 4 (none) ∈ WA := wa_t2 (i := 72) rfl rfl
set_option maxRecDepth 20000 in
theorem k_300 : Cond.initialized "FiguredBass$Key" ∈ WA := wa_t1 (i := 2) rfl rfl
set_option maxRecDepth 20000 in
theorem k_301 : Cond.instanceMethod ⟨"FiguredBass$Key", "write", "(IZ)V"⟩ ∈ WA := wa_t2 (i := 70) rfl rfl
set_option maxRecDepth 20000 in
theorem k_302 : Cond.selects "FiguredBass$Key" ⟨"FiguredBass$Key", "write", "(IZ)V"⟩ ⟨"FiguredBass$Key", "write", "(IZ)V"⟩ ∈ WA := wa_t2 (i := 71) rfl rfl
set_option maxRecDepth 20000 in
theorem k_303 : Cond.code ⟨"FiguredBass$Key", "alterationOf", "(II)I"⟩ prog_4_method_3_code 3 (some .int) ∈ WA := wa_t2 (i := 131) rfl rfl
set_option maxRecDepth 20000 in
theorem k_304 : Cond.instanceMethod ⟨"FiguredBass$Key", "alterationOf", "(II)I"⟩ ∈ WA := wa_t2 (i := 129) rfl rfl
set_option maxRecDepth 20000 in
theorem k_305 : Cond.selects "FiguredBass$Key" ⟨"FiguredBass$Key", "alterationOf", "(II)I"⟩ ⟨"FiguredBass$Key", "alterationOf", "(II)I"⟩ ∈ WA := wa_t2 (i := 130) rfl rfl
set_option maxRecDepth 20000 in
theorem k_306 : Cond.code ⟨"FiguredBass$Row", "clear", "()V"⟩ prog_7_method_2_code 1 (none) ∈ WA := wa_t2 (i := 97) rfl rfl
set_option maxRecDepth 20000 in
theorem k_307 : Cond.initialized "FiguredBass$Row" ∈ WA := wa_t1 (i := 7) rfl rfl
set_option maxRecDepth 20000 in
theorem k_308 : Cond.instanceMethod ⟨"FiguredBass$Row", "clear", "()V"⟩ ∈ WA := wa_t2 (i := 95) rfl rfl
set_option maxRecDepth 20000 in
theorem k_309 : Cond.selects "FiguredBass$Row" ⟨"FiguredBass$Row", "clear", "()V"⟩ ⟨"FiguredBass$Row", "clear", "()V"⟩ ∈ WA := wa_t2 (i := 96) rfl rfl
set_option maxRecDepth 20000 in
theorem k_310 : Cond.code ⟨"FiguredBass$Row", "takes", "(I)Z"⟩ prog_7_method_3_code 2 (some .boolean) ∈ WA := wa_t2 (i := 197) rfl rfl
set_option maxRecDepth 20000 in
theorem k_311 : Cond.instanceMethod ⟨"FiguredBass$Row", "takes", "(I)Z"⟩ ∈ WA := wa_t2 (i := 195) rfl rfl
set_option maxRecDepth 20000 in
theorem k_312 : Cond.selects "FiguredBass$Row" ⟨"FiguredBass$Row", "takes", "(I)Z"⟩ ⟨"FiguredBass$Row", "takes", "(I)Z"⟩ ∈ WA := wa_t2 (i := 196) rfl rfl
set_option maxRecDepth 20000 in
theorem k_313 : Cond.code ⟨"FiguredBass$Row", "add", "(II)V"⟩ prog_7_method_4_code 3 (none) ∈ WA := wa_t2 (i := 117) rfl rfl
set_option maxRecDepth 20000 in
theorem k_314 : Cond.instanceMethod ⟨"FiguredBass$Row", "add", "(II)V"⟩ ∈ WA := wa_t2 (i := 115) rfl rfl
set_option maxRecDepth 20000 in
theorem k_315 : Cond.selects "FiguredBass$Row" ⟨"FiguredBass$Row", "add", "(II)V"⟩ ⟨"FiguredBass$Row", "add", "(II)V"⟩ ∈ WA := wa_t2 (i := 116) rfl rfl
set_option maxRecDepth 20000 in
theorem k_316 : Cond.code ⟨"FiguredBass$Row", "indexOf", "(I)I"⟩ prog_7_method_5_code 3 (some .int) ∈ WA := wa_t2 (i := 113) rfl rfl
set_option maxRecDepth 20000 in
theorem k_317 : Cond.instanceMethod ⟨"FiguredBass$Row", "indexOf", "(I)I"⟩ ∈ WA := wa_t2 (i := 111) rfl rfl
set_option maxRecDepth 20000 in
theorem k_318 : Cond.selects "FiguredBass$Row" ⟨"FiguredBass$Row", "indexOf", "(I)I"⟩ ⟨"FiguredBass$Row", "indexOf", "(I)I"⟩ ∈ WA := wa_t2 (i := 112) rfl rfl
set_option maxRecDepth 20000 in
theorem k_319 : Cond.code ⟨"FiguredBass$Row", "has", "(I)Z"⟩ prog_7_method_6_code 2 (some .boolean) ∈ WA := wa_t2 (i := 148) rfl rfl
set_option maxRecDepth 20000 in
theorem k_320 : Cond.instanceMethod ⟨"FiguredBass$Row", "has", "(I)Z"⟩ ∈ WA := wa_t2 (i := 146) rfl rfl
set_option maxRecDepth 20000 in
theorem k_321 : Cond.selects "FiguredBass$Row" ⟨"FiguredBass$Row", "has", "(I)Z"⟩ ⟨"FiguredBass$Row", "has", "(I)Z"⟩ ∈ WA := wa_t2 (i := 147) rfl rfl
set_option maxRecDepth 20000 in
theorem k_322 : Cond.code ⟨"FiguredBass$Row", "spellOut", "(LFiguredBass$Row;)V"⟩ prog_7_method_7_code 6 (none) ∈ WA := wa_t2 (i := 93) rfl rfl
set_option maxRecDepth 20000 in
theorem k_323 : Cond.instanceMethod ⟨"FiguredBass$Row", "spellOut", "(LFiguredBass$Row;)V"⟩ ∈ WA := wa_t2 (i := 91) rfl rfl
set_option maxRecDepth 20000 in
theorem k_324 : Cond.selects "FiguredBass$Row" ⟨"FiguredBass$Row", "spellOut", "(LFiguredBass$Row;)V"⟩ ⟨"FiguredBass$Row", "spellOut", "(LFiguredBass$Row;)V"⟩ ∈ WA := wa_t2 (i := 92) rfl rfl
set_option maxRecDepth 20000 in
theorem k_325 : Cond.code ⟨"FiguredBass$Row", "addsOptionalFifth", "()Z"⟩ prog_7_method_8_code 2 (some .boolean) ∈ WA := wa_t2 (i := 135) rfl rfl
set_option maxRecDepth 20000 in
theorem k_326 : Cond.instanceMethod ⟨"FiguredBass$Row", "addsOptionalFifth", "()Z"⟩ ∈ WA := wa_t2 (i := 133) rfl rfl
set_option maxRecDepth 20000 in
theorem k_327 : Cond.selects "FiguredBass$Row" ⟨"FiguredBass$Row", "addsOptionalFifth", "()Z"⟩ ⟨"FiguredBass$Row", "addsOptionalFifth", "()Z"⟩ ∈ WA := wa_t2 (i := 134) rfl rfl
set_option maxRecDepth 20000 in
theorem k_328 : Cond.code ⟨"FiguredBass$Row", "digits", "()I"⟩ prog_7_method_9_code 3 (some .int) ∈ WA := wa_t2 (i := 105) rfl rfl
set_option maxRecDepth 20000 in
theorem k_329 : Cond.instanceMethod ⟨"FiguredBass$Row", "digits", "()I"⟩ ∈ WA := wa_t2 (i := 104) rfl rfl
theorem k_330 : Cond.selects "FiguredBass$Row" ⟨"FiguredBass$Row", "digits", "()I"⟩ ⟨"FiguredBass$Row", "digits", "()I"⟩ ∈ WA := wa_p (i := 2) rfl rfl
set_option maxRecDepth 20000 in
theorem k_331 : Cond.code ⟨"FiguredBass$Row", "longDigits", "()I"⟩ prog_7_method_10_code 3 (some .int) ∈ WA := wa_t2 (i := 101) rfl rfl
set_option maxRecDepth 20000 in
theorem k_332 : Cond.instanceMethod ⟨"FiguredBass$Row", "longDigits", "()I"⟩ ∈ WA := wa_t2 (i := 100) rfl rfl
theorem k_333 : Cond.selects "FiguredBass$Row" ⟨"FiguredBass$Row", "longDigits", "()I"⟩ ⟨"FiguredBass$Row", "longDigits", "()I"⟩ ∈ WA := wa_p (i := 1) rfl rfl
set_option maxRecDepth 20000 in
theorem k_334 : Cond.code ⟨"FiguredBass$Chord", "hasBass", "()Z"⟩ prog_2_method_2_code 1 (some .boolean) ∈ WA := wa_t2 (i := 89) rfl rfl
set_option maxRecDepth 20000 in
theorem k_335 : Cond.initialized "FiguredBass$Chord" ∈ WA := wa_t1 (i := 6) rfl rfl
set_option maxRecDepth 20000 in
theorem k_336 : Cond.instanceMethod ⟨"FiguredBass$Chord", "hasBass", "()Z"⟩ ∈ WA := wa_t2 (i := 87) rfl rfl
set_option maxRecDepth 20000 in
theorem k_337 : Cond.selects "FiguredBass$Chord" ⟨"FiguredBass$Chord", "hasBass", "()Z"⟩ ⟨"FiguredBass$Chord", "hasBass", "()Z"⟩ ∈ WA := wa_t2 (i := 88) rfl rfl
set_option maxRecDepth 20000 in
theorem k_338 : Cond.code ⟨"FiguredBass$Chord", "writeBass", "(III)V"⟩ prog_2_method_3_code 4 (none) ∈ WA := wa_t2 (i := 182) rfl rfl
set_option maxRecDepth 20000 in
theorem k_339 : Cond.instanceMethod ⟨"FiguredBass$Chord", "writeBass", "(III)V"⟩ ∈ WA := wa_t2 (i := 180) rfl rfl
set_option maxRecDepth 20000 in
theorem k_340 : Cond.selects "FiguredBass$Chord" ⟨"FiguredBass$Chord", "writeBass", "(III)V"⟩ ⟨"FiguredBass$Chord", "writeBass", "(III)V"⟩ ∈ WA := wa_t2 (i := 181) rfl rfl
set_option maxRecDepth 20000 in
theorem k_341 : Cond.code ⟨"FiguredBass$Chord", "read", "(LFiguredBass$Key;)V"⟩ prog_2_method_4_code 2 (none) ∈ WA := wa_t2 (i := 85) rfl rfl
set_option maxRecDepth 20000 in
theorem k_342 : Cond.instanceMethod ⟨"FiguredBass$Chord", "read", "(LFiguredBass$Key;)V"⟩ ∈ WA := wa_t2 (i := 83) rfl rfl
set_option maxRecDepth 20000 in
theorem k_343 : Cond.selects "FiguredBass$Chord" ⟨"FiguredBass$Chord", "read", "(LFiguredBass$Key;)V"⟩ ⟨"FiguredBass$Chord", "read", "(LFiguredBass$Key;)V"⟩ ∈ WA := wa_t2 (i := 84) rfl rfl
set_option maxRecDepth 20000 in
theorem k_344 : Cond.code ⟨"FiguredBass$Chord", "readTones", "(LFiguredBass$Key;)V"⟩ prog_2_method_5_code 4 (none) ∈ WA := wa_t2 (i := 121) rfl rfl
set_option maxRecDepth 20000 in
theorem k_345 : Cond.instanceMethod ⟨"FiguredBass$Chord", "readTones", "(LFiguredBass$Key;)V"⟩ ∈ WA := wa_t2 (i := 120) rfl rfl
theorem k_346 : Cond.selects "FiguredBass$Chord" ⟨"FiguredBass$Chord", "readTones", "(LFiguredBass$Key;)V"⟩ ⟨"FiguredBass$Chord", "readTones", "(LFiguredBass$Key;)V"⟩ ∈ WA := wa_p (i := 3) rfl rfl
set_option maxRecDepth 20000 in
theorem k_347 : Cond.code ⟨"FiguredBass$Chord", "addTone", "(II)V"⟩ prog_2_method_6_code 4 (none) ∈ WA := wa_t2 (i := 125) rfl rfl
set_option maxRecDepth 20000 in
theorem k_348 : Cond.instanceMethod ⟨"FiguredBass$Chord", "addTone", "(II)V"⟩ ∈ WA := wa_t2 (i := 124) rfl rfl
theorem k_349 : Cond.selects "FiguredBass$Chord" ⟨"FiguredBass$Chord", "addTone", "(II)V"⟩ ⟨"FiguredBass$Chord", "addTone", "(II)V"⟩ ∈ WA := wa_p (i := 4) rfl rfl
set_option maxRecDepth 20000 in
theorem k_350 : Cond.code ⟨"FiguredBass$Chord", "readSeventhAndThird", "()V"⟩ prog_2_method_7_code 3 (none) ∈ WA := wa_t2 (i := 140) rfl rfl
set_option maxRecDepth 20000 in
theorem k_351 : Cond.instanceMethod ⟨"FiguredBass$Chord", "readSeventhAndThird", "()V"⟩ ∈ WA := wa_t2 (i := 139) rfl rfl
theorem k_352 : Cond.selects "FiguredBass$Chord" ⟨"FiguredBass$Chord", "readSeventhAndThird", "()V"⟩ ⟨"FiguredBass$Chord", "readSeventhAndThird", "()V"⟩ ∈ WA := wa_p (i := 5) rfl rfl
set_option maxRecDepth 20000 in
theorem k_353 : Cond.code ⟨"FiguredBass$Chord", "seventhTone", "()I"⟩ prog_2_method_8_code 1 (some .int) ∈ WA := wa_t2 (i := 144) rfl rfl
set_option maxRecDepth 20000 in
theorem k_354 : Cond.instanceMethod ⟨"FiguredBass$Chord", "seventhTone", "()I"⟩ ∈ WA := wa_t2 (i := 143) rfl rfl
theorem k_355 : Cond.selects "FiguredBass$Chord" ⟨"FiguredBass$Chord", "seventhTone", "()I"⟩ ⟨"FiguredBass$Chord", "seventhTone", "()I"⟩ ∈ WA := wa_p (i := 6) rfl rfl
set_option maxRecDepth 20000 in
theorem k_356 : Cond.code ⟨"FiguredBass$Chord", "letterOf", "(I)I"⟩ prog_2_method_9_code 2 (some .int) ∈ WA := wa_t3 (i := 40) rfl rfl
set_option maxRecDepth 20000 in
theorem k_357 : Cond.instanceMethod ⟨"FiguredBass$Chord", "letterOf", "(I)I"⟩ ∈ WA := wa_t3 (i := 38) rfl rfl
set_option maxRecDepth 20000 in
theorem k_358 : Cond.selects "FiguredBass$Chord" ⟨"FiguredBass$Chord", "letterOf", "(I)I"⟩ ⟨"FiguredBass$Chord", "letterOf", "(I)I"⟩ ∈ WA := wa_t3 (i := 39) rfl rfl
set_option maxRecDepth 20000 in
theorem k_359 : Cond.code ⟨"FiguredBass$Chord", "hasTone", "(I)Z"⟩ prog_2_method_10_code 2 (some .boolean) ∈ WA := wa_t3 (i := 36) rfl rfl
set_option maxRecDepth 20000 in
theorem k_360 : Cond.instanceMethod ⟨"FiguredBass$Chord", "hasTone", "(I)Z"⟩ ∈ WA := wa_t3 (i := 34) rfl rfl
set_option maxRecDepth 20000 in
theorem k_361 : Cond.selects "FiguredBass$Chord" ⟨"FiguredBass$Chord", "hasTone", "(I)Z"⟩ ⟨"FiguredBass$Chord", "hasTone", "(I)Z"⟩ ∈ WA := wa_t3 (i := 35) rfl rfl
set_option maxRecDepth 20000 in
theorem k_362 : Cond.code ⟨"FiguredBass$Chord", "gather", "()V"⟩ prog_2_method_11_code 6 (none) ∈ WA := wa_t3 (i := 15) rfl rfl
set_option maxRecDepth 20000 in
theorem k_363 : Cond.instanceMethod ⟨"FiguredBass$Chord", "gather", "()V"⟩ ∈ WA := wa_t3 (i := 13) rfl rfl
set_option maxRecDepth 20000 in
theorem k_364 : Cond.selects "FiguredBass$Chord" ⟨"FiguredBass$Chord", "gather", "()V"⟩ ⟨"FiguredBass$Chord", "gather", "()V"⟩ ∈ WA := wa_t3 (i := 14) rfl rfl
set_option maxRecDepth 20000 in
theorem k_365 : Cond.code ⟨"FiguredBass$Chord", "gatherTenors", "(III)V"⟩ prog_2_method_12_code 8 (none) ∈ WA := wa_t3 (i := 44) rfl rfl
set_option maxRecDepth 20000 in
theorem k_366 : Cond.instanceMethod ⟨"FiguredBass$Chord", "gatherTenors", "(III)V"⟩ ∈ WA := wa_t3 (i := 43) rfl rfl
theorem k_367 : Cond.selects "FiguredBass$Chord" ⟨"FiguredBass$Chord", "gatherTenors", "(III)V"⟩ ⟨"FiguredBass$Chord", "gatherTenors", "(III)V"⟩ ∈ WA := wa_p (i := 10) rfl rfl
set_option maxRecDepth 20000 in
theorem k_368 : Cond.code ⟨"FiguredBass$Chord", "addPlacement", "(III)V"⟩ prog_2_method_13_code 5 (none) ∈ WA := wa_t3 (i := 48) rfl rfl
set_option maxRecDepth 20000 in
theorem k_369 : Cond.instanceMethod ⟨"FiguredBass$Chord", "addPlacement", "(III)V"⟩ ∈ WA := wa_t3 (i := 47) rfl rfl
theorem k_370 : Cond.selects "FiguredBass$Chord" ⟨"FiguredBass$Chord", "addPlacement", "(III)V"⟩ ⟨"FiguredBass$Chord", "addPlacement", "(III)V"⟩ ∈ WA := wa_p (i := 11) rfl rfl
set_option maxRecDepth 20000 in
theorem k_371 : Cond.code ⟨"FiguredBass$Chord", "neededClasses", "()I"⟩ prog_2_method_14_code 3 (some .int) ∈ WA := wa_t3 (i := 19) rfl rfl
set_option maxRecDepth 20000 in
theorem k_372 : Cond.instanceMethod ⟨"FiguredBass$Chord", "neededClasses", "()I"⟩ ∈ WA := wa_t3 (i := 18) rfl rfl
theorem k_373 : Cond.selects "FiguredBass$Chord" ⟨"FiguredBass$Chord", "neededClasses", "()I"⟩ ⟨"FiguredBass$Chord", "neededClasses", "()I"⟩ ∈ WA := wa_p (i := 9) rfl rfl
set_option maxRecDepth 20000 in
theorem k_374 : Cond.code ⟨"FiguredBass$Chord", "bit", "(I)I"⟩ prog_2_method_15_code 1 (some .int) ∈ WA := wa_t3 (i := 22) rfl rfl
set_option maxRecDepth 20000 in
theorem k_375 : Cond.static ⟨"FiguredBass$Chord", "bit", "(I)I"⟩ ∈ WA := wa_t3 (i := 21) rfl rfl
set_option maxRecDepth 20000 in
theorem k_376 : Cond.code ⟨"FiguredBass$Chord", "soundOf", "(II)I"⟩ prog_2_method_16_code 3 (some .int) ∈ WA := wa_t3 (i := 65) rfl rfl
set_option maxRecDepth 20000 in
theorem k_377 : Cond.instanceMethod ⟨"FiguredBass$Chord", "soundOf", "(II)I"⟩ ∈ WA := wa_t3 (i := 63) rfl rfl
set_option maxRecDepth 20000 in
theorem k_378 : Cond.selects "FiguredBass$Chord" ⟨"FiguredBass$Chord", "soundOf", "(II)I"⟩ ⟨"FiguredBass$Chord", "soundOf", "(II)I"⟩ ∈ WA := wa_t3 (i := 64) rfl rfl
set_option maxRecDepth 20000 in
theorem k_379 : Cond.code ⟨"FiguredBass$Chord", "pupilGap", "(I)I"⟩ prog_2_method_17_code 2 (some .int) ∈ WA := wa_t3 (i := 217) rfl rfl
set_option maxRecDepth 20000 in
theorem k_380 : Cond.instanceMethod ⟨"FiguredBass$Chord", "pupilGap", "(I)I"⟩ ∈ WA := wa_t3 (i := 215) rfl rfl
set_option maxRecDepth 20000 in
theorem k_381 : Cond.selects "FiguredBass$Chord" ⟨"FiguredBass$Chord", "pupilGap", "(I)I"⟩ ⟨"FiguredBass$Chord", "pupilGap", "(I)I"⟩ ∈ WA := wa_t3 (i := 216) rfl rfl
set_option maxRecDepth 20000 in
theorem k_382 : Cond.code ⟨"FiguredBass$Chord", "fees", "(I)I"⟩ prog_2_method_18_code 2 (some .int) ∈ WA := wa_t3 (i := 88) rfl rfl
set_option maxRecDepth 20000 in
theorem k_383 : Cond.instanceMethod ⟨"FiguredBass$Chord", "fees", "(I)I"⟩ ∈ WA := wa_t3 (i := 86) rfl rfl
set_option maxRecDepth 20000 in
theorem k_384 : Cond.selects "FiguredBass$Chord" ⟨"FiguredBass$Chord", "fees", "(I)I"⟩ ⟨"FiguredBass$Chord", "fees", "(I)I"⟩ ∈ WA := wa_t3 (i := 87) rfl rfl
set_option maxRecDepth 20000 in
theorem k_385 : Cond.code ⟨"FiguredBass$Chord", "doublings", "(II)I"⟩ prog_2_method_19_code 5 (some .int) ∈ WA := wa_t3 (i := 92) rfl rfl
set_option maxRecDepth 20000 in
theorem k_386 : Cond.instanceMethod ⟨"FiguredBass$Chord", "doublings", "(II)I"⟩ ∈ WA := wa_t3 (i := 91) rfl rfl
theorem k_387 : Cond.selects "FiguredBass$Chord" ⟨"FiguredBass$Chord", "doublings", "(II)I"⟩ ⟨"FiguredBass$Chord", "doublings", "(II)I"⟩ ∈ WA := wa_p (i := 15) rfl rfl
set_option maxRecDepth 20000 in
theorem k_388 : Cond.code ⟨"FiguredBass$Move", "startAt", "(LFiguredBass$Chord;I)V"⟩ prog_5_method_2_code 4 (none) ∈ WA := wa_t3 (i := 97) rfl rfl
set_option maxRecDepth 20000 in
theorem k_389 : Cond.initialized "FiguredBass$Move" ∈ WA := wa_t1 (i := 4) rfl rfl
set_option maxRecDepth 20000 in
theorem k_390 : Cond.instanceMethod ⟨"FiguredBass$Move", "startAt", "(LFiguredBass$Chord;I)V"⟩ ∈ WA := wa_t3 (i := 95) rfl rfl
set_option maxRecDepth 20000 in
theorem k_391 : Cond.selects "FiguredBass$Move" ⟨"FiguredBass$Move", "startAt", "(LFiguredBass$Chord;I)V"⟩ ⟨"FiguredBass$Move", "startAt", "(LFiguredBass$Chord;I)V"⟩ ∈ WA := wa_t3 (i := 96) rfl rfl
set_option maxRecDepth 20000 in
theorem k_392 : Cond.code ⟨"FiguredBass$Move", "endAt", "(LFiguredBass$Chord;I)V"⟩ prog_5_method_3_code 4 (none) ∈ WA := wa_t3 (i := 103) rfl rfl
set_option maxRecDepth 20000 in
theorem k_393 : Cond.instanceMethod ⟨"FiguredBass$Move", "endAt", "(LFiguredBass$Chord;I)V"⟩ ∈ WA := wa_t3 (i := 101) rfl rfl
set_option maxRecDepth 20000 in
theorem k_394 : Cond.selects "FiguredBass$Move" ⟨"FiguredBass$Move", "endAt", "(LFiguredBass$Chord;I)V"⟩ ⟨"FiguredBass$Move", "endAt", "(LFiguredBass$Chord;I)V"⟩ ∈ WA := wa_t3 (i := 102) rfl rfl
set_option maxRecDepth 20000 in
theorem k_395 : Cond.code ⟨"FiguredBass$Move", "distance", "()I"⟩ prog_5_method_4_code 3 (some .int) ∈ WA := wa_t3 (i := 107) rfl rfl
set_option maxRecDepth 20000 in
theorem k_396 : Cond.instanceMethod ⟨"FiguredBass$Move", "distance", "()I"⟩ ∈ WA := wa_t3 (i := 105) rfl rfl
set_option maxRecDepth 20000 in
theorem k_397 : Cond.selects "FiguredBass$Move" ⟨"FiguredBass$Move", "distance", "()I"⟩ ⟨"FiguredBass$Move", "distance", "()I"⟩ ∈ WA := wa_t3 (i := 106) rfl rfl
set_option maxRecDepth 20000 in
theorem k_398 : Cond.code ⟨"FiguredBass$Move", "keepsRules", "()Z"⟩ prog_5_method_5_code 3 (some .boolean) ∈ WA := wa_t3 (i := 114) rfl rfl
set_option maxRecDepth 20000 in
theorem k_399 : Cond.instanceMethod ⟨"FiguredBass$Move", "keepsRules", "()Z"⟩ ∈ WA := wa_t3 (i := 112) rfl rfl
set_option maxRecDepth 20000 in
theorem k_400 : Cond.selects "FiguredBass$Move" ⟨"FiguredBass$Move", "keepsRules", "()Z"⟩ ⟨"FiguredBass$Move", "keepsRules", "()Z"⟩ ∈ WA := wa_t3 (i := 113) rfl rfl
set_option maxRecDepth 20000 in
theorem k_401 : Cond.code ⟨"FiguredBass$Move", "breaksParallel", "(II)Z"⟩ prog_5_method_6_code 4 (some .boolean) ∈ WA := wa_t3 (i := 130) rfl rfl
set_option maxRecDepth 20000 in
theorem k_402 : Cond.instanceMethod ⟨"FiguredBass$Move", "breaksParallel", "(II)Z"⟩ ∈ WA := wa_t3 (i := 128) rfl rfl
set_option maxRecDepth 20000 in
theorem k_403 : Cond.selects "FiguredBass$Move" ⟨"FiguredBass$Move", "breaksParallel", "(II)Z"⟩ ⟨"FiguredBass$Move", "breaksParallel", "(II)Z"⟩ ∈ WA := wa_t3 (i := 129) rfl rfl
set_option maxRecDepth 20000 in
theorem k_404 : Cond.code ⟨"FiguredBass$Move", "breaksLeading", "(I)Z"⟩ prog_5_method_7_code 3 (some .boolean) ∈ WA := wa_t3 (i := 118) rfl rfl
set_option maxRecDepth 20000 in
theorem k_405 : Cond.instanceMethod ⟨"FiguredBass$Move", "breaksLeading", "(I)Z"⟩ ∈ WA := wa_t3 (i := 116) rfl rfl
set_option maxRecDepth 20000 in
theorem k_406 : Cond.selects "FiguredBass$Move" ⟨"FiguredBass$Move", "breaksLeading", "(I)Z"⟩ ⟨"FiguredBass$Move", "breaksLeading", "(I)Z"⟩ ∈ WA := wa_t3 (i := 117) rfl rfl
set_option maxRecDepth 20000 in
theorem k_407 : Cond.code ⟨"FiguredBass$Move", "breaksSeventh", "(I)Z"⟩ prog_5_method_8_code 3 (some .boolean) ∈ WA := wa_t3 (i := 122) rfl rfl
set_option maxRecDepth 20000 in
theorem k_408 : Cond.instanceMethod ⟨"FiguredBass$Move", "breaksSeventh", "(I)Z"⟩ ∈ WA := wa_t3 (i := 120) rfl rfl
set_option maxRecDepth 20000 in
theorem k_409 : Cond.selects "FiguredBass$Move" ⟨"FiguredBass$Move", "breaksSeventh", "(I)Z"⟩ ⟨"FiguredBass$Move", "breaksSeventh", "(I)Z"⟩ ∈ WA := wa_t3 (i := 121) rfl rfl
set_option maxRecDepth 20000 in
theorem k_410 : Cond.code ⟨"FiguredBass$Move", "breaksStep", "(I)Z"⟩ prog_5_method_9_code 5 (some .boolean) ∈ WA := wa_t3 (i := 126) rfl rfl
set_option maxRecDepth 20000 in
theorem k_411 : Cond.instanceMethod ⟨"FiguredBass$Move", "breaksStep", "(I)Z"⟩ ∈ WA := wa_t3 (i := 124) rfl rfl
set_option maxRecDepth 20000 in
theorem k_412 : Cond.selects "FiguredBass$Move" ⟨"FiguredBass$Move", "breaksStep", "(I)Z"⟩ ⟨"FiguredBass$Move", "breaksStep", "(I)Z"⟩ ∈ WA := wa_t3 (i := 125) rfl rfl
set_option maxRecDepth 20000 in
theorem k_413 : Cond.code ⟨"FiguredBass$Realisation", "forget", "()V"⟩ prog_6_method_2_code 1 (none) ∈ WA := wa_t2 (i := 152) rfl rfl
set_option maxRecDepth 20000 in
theorem k_414 : Cond.initialized "FiguredBass$Realisation" ∈ WA := wa_t1 (i := 3) rfl rfl
set_option maxRecDepth 20000 in
theorem k_415 : Cond.instanceMethod ⟨"FiguredBass$Realisation", "forget", "()V"⟩ ∈ WA := wa_t2 (i := 150) rfl rfl
set_option maxRecDepth 20000 in
theorem k_416 : Cond.selects "FiguredBass$Realisation" ⟨"FiguredBass$Realisation", "forget", "()V"⟩ ⟨"FiguredBass$Realisation", "forget", "()V"⟩ ∈ WA := wa_t2 (i := 151) rfl rfl
set_option maxRecDepth 20000 in
theorem k_417 : Cond.code ⟨"FiguredBass$Realisation", "write", "([LFiguredBass$Chord;I)I"⟩ prog_6_method_3_code 5 (some .int) ∈ WA := wa_t3 (i := 80) rfl rfl
set_option maxRecDepth 20000 in
theorem k_418 : Cond.instanceMethod ⟨"FiguredBass$Realisation", "write", "([LFiguredBass$Chord;I)I"⟩ ∈ WA := wa_t3 (i := 78) rfl rfl
set_option maxRecDepth 20000 in
theorem k_419 : Cond.selects "FiguredBass$Realisation" ⟨"FiguredBass$Realisation", "write", "([LFiguredBass$Chord;I)I"⟩ ⟨"FiguredBass$Realisation", "write", "([LFiguredBass$Chord;I)I"⟩ ∈ WA := wa_t3 (i := 79) rfl rfl
set_option maxRecDepth 20000 in
theorem k_420 : Cond.code ⟨"FiguredBass$Realisation", "weigh", "([LFiguredBass$Chord;III)V"⟩ prog_6_method_4_code 9 (none) ∈ WA := wa_t3 (i := 84) rfl rfl
set_option maxRecDepth 20000 in
theorem k_421 : Cond.instanceMethod ⟨"FiguredBass$Realisation", "weigh", "([LFiguredBass$Chord;III)V"⟩ ∈ WA := wa_t3 (i := 83) rfl rfl
theorem k_422 : Cond.selects "FiguredBass$Realisation" ⟨"FiguredBass$Realisation", "weigh", "([LFiguredBass$Chord;III)V"⟩ ⟨"FiguredBass$Realisation", "weigh", "([LFiguredBass$Chord;III)V"⟩ ∈ WA := wa_p (i := 14) rfl rfl
set_option maxRecDepth 20000 in
theorem k_423 : Cond.code ⟨"FiguredBass$Realisation", "cheapest", "(I)I"⟩ prog_6_method_5_code 5 (some .int) ∈ WA := wa_t3 (i := 135) rfl rfl
set_option maxRecDepth 20000 in
theorem k_424 : Cond.instanceMethod ⟨"FiguredBass$Realisation", "cheapest", "(I)I"⟩ ∈ WA := wa_t3 (i := 134) rfl rfl
theorem k_425 : Cond.selects "FiguredBass$Realisation" ⟨"FiguredBass$Realisation", "cheapest", "(I)I"⟩ ⟨"FiguredBass$Realisation", "cheapest", "(I)I"⟩ ∈ WA := wa_p (i := 16) rfl rfl
set_option maxRecDepth 20000 in
theorem k_426 : Cond.code ⟨"FiguredBass$Realisation", "choose", "(II)V"⟩ prog_6_method_6_code 4 (none) ∈ WA := wa_t3 (i := 139) rfl rfl
set_option maxRecDepth 20000 in
theorem k_427 : Cond.instanceMethod ⟨"FiguredBass$Realisation", "choose", "(II)V"⟩ ∈ WA := wa_t3 (i := 138) rfl rfl
theorem k_428 : Cond.selects "FiguredBass$Realisation" ⟨"FiguredBass$Realisation", "choose", "(II)V"⟩ ⟨"FiguredBass$Realisation", "choose", "(II)V"⟩ ∈ WA := wa_p (i := 17) rfl rfl
set_option maxRecDepth 20000 in
theorem k_429 : Cond.code ⟨"FiguredBass$Realisation", "firstUnreached", "([LFiguredBass$Chord;I)I"⟩ prog_6_method_7_code 4 (some .int) ∈ WA := wa_t3 (i := 143) rfl rfl
set_option maxRecDepth 20000 in
theorem k_430 : Cond.instanceMethod ⟨"FiguredBass$Realisation", "firstUnreached", "([LFiguredBass$Chord;I)I"⟩ ∈ WA := wa_t3 (i := 141) rfl rfl
set_option maxRecDepth 20000 in
theorem k_431 : Cond.selects "FiguredBass$Realisation" ⟨"FiguredBass$Realisation", "firstUnreached", "([LFiguredBass$Chord;I)I"⟩ ⟨"FiguredBass$Realisation", "firstUnreached", "([LFiguredBass$Chord;I)I"⟩ ∈ WA := wa_t3 (i := 142) rfl rfl
set_option maxRecDepth 20000 in
theorem k_432 : Cond.code ⟨"FiguredBass$Realisation", "anyReached", "()Z"⟩ prog_6_method_8_code 2 (some .boolean) ∈ WA := wa_t3 (i := 147) rfl rfl
set_option maxRecDepth 20000 in
theorem k_433 : Cond.instanceMethod ⟨"FiguredBass$Realisation", "anyReached", "()Z"⟩ ∈ WA := wa_t3 (i := 146) rfl rfl
theorem k_434 : Cond.selects "FiguredBass$Realisation" ⟨"FiguredBass$Realisation", "anyReached", "()Z"⟩ ⟨"FiguredBass$Realisation", "anyReached", "()Z"⟩ ∈ WA := wa_p (i := 18) rfl rfl
set_option maxRecDepth 20000 in
theorem k_435 : Cond.code ⟨"FiguredBass$Realisation", "reachNext", "(LFiguredBass$Chord;LFiguredBass$Chord;)V"⟩ prog_6_method_9_code 4 (none) ∈ WA := wa_t3 (i := 151) rfl rfl
set_option maxRecDepth 20000 in
theorem k_436 : Cond.instanceMethod ⟨"FiguredBass$Realisation", "reachNext", "(LFiguredBass$Chord;LFiguredBass$Chord;)V"⟩ ∈ WA := wa_t3 (i := 150) rfl rfl
theorem k_437 : Cond.selects "FiguredBass$Realisation" ⟨"FiguredBass$Realisation", "reachNext", "(LFiguredBass$Chord;LFiguredBass$Chord;)V"⟩ ⟨"FiguredBass$Realisation", "reachNext", "(LFiguredBass$Chord;LFiguredBass$Chord;)V"⟩ ∈ WA := wa_p (i := 19) rfl rfl
set_option maxRecDepth 20000 in
theorem k_438 : Cond.code ⟨"FiguredBass$Realisation", "isReachable", "(LFiguredBass$Chord;LFiguredBass$Chord;I)Z"⟩ prog_6_method_10_code 5 (some .boolean) ∈ WA := wa_t3 (i := 155) rfl rfl
set_option maxRecDepth 20000 in
theorem k_439 : Cond.instanceMethod ⟨"FiguredBass$Realisation", "isReachable", "(LFiguredBass$Chord;LFiguredBass$Chord;I)Z"⟩ ∈ WA := wa_t3 (i := 154) rfl rfl
theorem k_440 : Cond.selects "FiguredBass$Realisation" ⟨"FiguredBass$Realisation", "isReachable", "(LFiguredBass$Chord;LFiguredBass$Chord;I)Z"⟩ ⟨"FiguredBass$Realisation", "isReachable", "(LFiguredBass$Chord;LFiguredBass$Chord;I)Z"⟩ ∈ WA := wa_p (i := 20) rfl rfl
set_option maxRecDepth 20000 in
theorem k_441 : Cond.code ⟨"FiguredBass$Realisation", "soundOf", "([LFiguredBass$Chord;II)I"⟩ prog_6_method_11_code 4 (some .int) ∈ WA := wa_t3 (i := 171) rfl rfl
set_option maxRecDepth 20000 in
theorem k_442 : Cond.instanceMethod ⟨"FiguredBass$Realisation", "soundOf", "([LFiguredBass$Chord;II)I"⟩ ∈ WA := wa_t3 (i := 169) rfl rfl
set_option maxRecDepth 20000 in
theorem k_443 : Cond.selects "FiguredBass$Realisation" ⟨"FiguredBass$Realisation", "soundOf", "([LFiguredBass$Chord;II)I"⟩ ⟨"FiguredBass$Realisation", "soundOf", "([LFiguredBass$Chord;II)I"⟩ ∈ WA := wa_t3 (i := 170) rfl rfl
set_option maxRecDepth 20000 in
theorem k_444 : Cond.code ⟨"FiguredBass$Realisation", "shareOf", "([LFiguredBass$Chord;I)I"⟩ prog_6_method_12_code 4 (some .int) ∈ WA := wa_t3 (i := 183) rfl rfl
set_option maxRecDepth 20000 in
theorem k_445 : Cond.instanceMethod ⟨"FiguredBass$Realisation", "shareOf", "([LFiguredBass$Chord;I)I"⟩ ∈ WA := wa_t3 (i := 181) rfl rfl
set_option maxRecDepth 20000 in
theorem k_446 : Cond.selects "FiguredBass$Realisation" ⟨"FiguredBass$Realisation", "shareOf", "([LFiguredBass$Chord;I)I"⟩ ⟨"FiguredBass$Realisation", "shareOf", "([LFiguredBass$Chord;I)I"⟩ ∈ WA := wa_t3 (i := 182) rfl rfl
set_option maxRecDepth 20000 in
theorem k_447 : Cond.code ⟨"FiguredBass$Examination", "look", "([LFiguredBass$Chord;I)I"⟩ prog_3_method_2_code 4 (some .int) ∈ WA := wa_t3 (i := 202) rfl rfl
set_option maxRecDepth 20000 in
theorem k_448 : Cond.initialized "FiguredBass$Examination" ∈ WA := wa_t1 (i := 5) rfl rfl
set_option maxRecDepth 20000 in
theorem k_449 : Cond.instanceMethod ⟨"FiguredBass$Examination", "look", "([LFiguredBass$Chord;I)I"⟩ ∈ WA := wa_t3 (i := 200) rfl rfl
set_option maxRecDepth 20000 in
theorem k_450 : Cond.selects "FiguredBass$Examination" ⟨"FiguredBass$Examination", "look", "([LFiguredBass$Chord;I)I"⟩ ⟨"FiguredBass$Examination", "look", "([LFiguredBass$Chord;I)I"⟩ ∈ WA := wa_t3 (i := 201) rfl rfl
set_option maxRecDepth 20000 in
theorem k_451 : Cond.code ⟨"FiguredBass$Examination", "answer", "(II)I"⟩ prog_3_method_3_code 3 (some .int) ∈ WA := wa_t4 (i := 12) rfl rfl
set_option maxRecDepth 20000 in
theorem k_452 : Cond.instanceMethod ⟨"FiguredBass$Examination", "answer", "(II)I"⟩ ∈ WA := wa_t4 (i := 10) rfl rfl
set_option maxRecDepth 20000 in
theorem k_453 : Cond.selects "FiguredBass$Examination" ⟨"FiguredBass$Examination", "answer", "(II)I"⟩ ⟨"FiguredBass$Examination", "answer", "(II)I"⟩ ∈ WA := wa_t4 (i := 11) rfl rfl
set_option maxRecDepth 20000 in
theorem k_454 : Cond.code ⟨"FiguredBass$Examination", "lookAtVoices", "(LFiguredBass$Chord;I)V"⟩ prog_3_method_4_code 5 (none) ∈ WA := wa_t3 (i := 206) rfl rfl
set_option maxRecDepth 20000 in
theorem k_455 : Cond.instanceMethod ⟨"FiguredBass$Examination", "lookAtVoices", "(LFiguredBass$Chord;I)V"⟩ ∈ WA := wa_t3 (i := 205) rfl rfl
theorem k_456 : Cond.selects "FiguredBass$Examination" ⟨"FiguredBass$Examination", "lookAtVoices", "(LFiguredBass$Chord;I)V"⟩ ⟨"FiguredBass$Examination", "lookAtVoices", "(LFiguredBass$Chord;I)V"⟩ ∈ WA := wa_p (i := 22) rfl rfl
set_option maxRecDepth 20000 in
theorem k_457 : Cond.code ⟨"FiguredBass$Examination", "lookAtMove", "(I)V"⟩ prog_3_method_5_code 4 (none) ∈ WA := wa_t3 (i := 228) rfl rfl
set_option maxRecDepth 20000 in
theorem k_458 : Cond.instanceMethod ⟨"FiguredBass$Examination", "lookAtMove", "(I)V"⟩ ∈ WA := wa_t3 (i := 227) rfl rfl
theorem k_459 : Cond.selects "FiguredBass$Examination" ⟨"FiguredBass$Examination", "lookAtMove", "(I)V"⟩ ⟨"FiguredBass$Examination", "lookAtMove", "(I)V"⟩ ∈ WA := wa_p (i := 24) rfl rfl
set_option maxRecDepth 20000 in
theorem k_460 : Cond.code ⟨"FiguredBass$Examination", "lookForMissingTones", "(LFiguredBass$Chord;I)V"⟩ prog_3_method_6_code 5 (none) ∈ WA := wa_t3 (i := 236) rfl rfl
set_option maxRecDepth 20000 in
theorem k_461 : Cond.instanceMethod ⟨"FiguredBass$Examination", "lookForMissingTones", "(LFiguredBass$Chord;I)V"⟩ ∈ WA := wa_t3 (i := 235) rfl rfl
theorem k_462 : Cond.selects "FiguredBass$Examination" ⟨"FiguredBass$Examination", "lookForMissingTones", "(LFiguredBass$Chord;I)V"⟩ ⟨"FiguredBass$Examination", "lookForMissingTones", "(LFiguredBass$Chord;I)V"⟩ ∈ WA := wa_p (i := 25) rfl rfl
set_option maxRecDepth 20000 in
theorem k_463 : Cond.code ⟨"FiguredBass$Examination", "isSung", "(LFiguredBass$Chord;I)Z"⟩ prog_3_method_7_code 3 (some .boolean) ∈ WA := wa_t3 (i := 239) rfl rfl
set_option maxRecDepth 20000 in
theorem k_464 : Cond.static ⟨"FiguredBass$Examination", "isSung", "(LFiguredBass$Chord;I)Z"⟩ ∈ WA := wa_t3 (i := 238) rfl rfl
set_option maxRecDepth 20000 in
theorem k_465 : Cond.code ⟨"FiguredBass$Examination", "pair", "(II)I"⟩ prog_3_method_8_code 2 (some .int) ∈ WA := wa_t3 (i := 220) rfl rfl
set_option maxRecDepth 20000 in
theorem k_466 : Cond.static ⟨"FiguredBass$Examination", "pair", "(II)I"⟩ ∈ WA := wa_t3 (i := 219) rfl rfl
set_option maxRecDepth 20000 in
theorem k_467 : Cond.code ⟨"FiguredBass$Examination", "addIf", "(ZIII)V"⟩ prog_3_method_9_code 5 (none) ∈ WA := wa_t3 (i := 213) rfl rfl
set_option maxRecDepth 20000 in
theorem k_468 : Cond.instanceMethod ⟨"FiguredBass$Examination", "addIf", "(ZIII)V"⟩ ∈ WA := wa_t3 (i := 212) rfl rfl
theorem k_469 : Cond.selects "FiguredBass$Examination" ⟨"FiguredBass$Examination", "addIf", "(ZIII)V"⟩ ⟨"FiguredBass$Examination", "addIf", "(ZIII)V"⟩ ∈ WA := wa_p (i := 23) rfl rfl
set_option maxRecDepth 20000 in
theorem k_470 : Cond.code ⟨"FiguredBassModel", "thrown", "()I"⟩ prog_9_method_2_code 1 (some .int) ∈ WA := wa_t4 (i := 149) rfl rfl
set_option maxRecDepth 20000 in
theorem k_471 : Cond.initialized "FiguredBassModel" ∈ WA := wa_t1 (i := 8) rfl rfl
set_option maxRecDepth 20000 in
theorem k_472 : Cond.instanceMethod ⟨"FiguredBassModel", "thrown", "()I"⟩ ∈ WA := wa_t4 (i := 147) rfl rfl
set_option maxRecDepth 20000 in
theorem k_473 : Cond.selects "FiguredBassModel" ⟨"FiguredBassModel", "thrown", "()I"⟩ ⟨"FiguredBassModel", "thrown", "()I"⟩ ∈ WA := wa_t4 (i := 148) rfl rfl
set_option maxRecDepth 20000 in
theorem k_474 : Cond.code ⟨"FiguredBassModel", "modulo", "(II)I"⟩ prog_9_method_3_code 4 (some .int) ∈ WA := wa_t4 (i := 209) rfl rfl
set_option maxRecDepth 20000 in
theorem k_475 : Cond.instanceMethod ⟨"FiguredBassModel", "modulo", "(II)I"⟩ ∈ WA := wa_t4 (i := 208) rfl rfl
theorem k_476 : Cond.selects "FiguredBassModel" ⟨"FiguredBassModel", "modulo", "(II)I"⟩ ⟨"FiguredBassModel", "modulo", "(II)I"⟩ ∈ WA := wa_p (i := 35) rfl rfl
set_option maxRecDepth 20000 in
theorem k_477 : Cond.code ⟨"FiguredBassModel", "keyAlteration", "(I)I"⟩ prog_9_method_4_code 3 (some .int) ∈ WA := wa_t4 (i := 213) rfl rfl
set_option maxRecDepth 20000 in
theorem k_478 : Cond.instanceMethod ⟨"FiguredBassModel", "keyAlteration", "(I)I"⟩ ∈ WA := wa_t4 (i := 212) rfl rfl
theorem k_479 : Cond.selects "FiguredBassModel" ⟨"FiguredBassModel", "keyAlteration", "(I)I"⟩ ⟨"FiguredBassModel", "keyAlteration", "(I)I"⟩ ∈ WA := wa_p (i := 36) rfl rfl
set_option maxRecDepth 20000 in
theorem k_480 : Cond.code ⟨"FiguredBassModel", "classOf", "(II)I"⟩ prog_9_method_5_code 3 (some .int) ∈ WA := wa_t4 (i := 205) rfl rfl
set_option maxRecDepth 20000 in
theorem k_481 : Cond.instanceMethod ⟨"FiguredBassModel", "classOf", "(II)I"⟩ ∈ WA := wa_t4 (i := 204) rfl rfl
theorem k_482 : Cond.selects "FiguredBassModel" ⟨"FiguredBassModel", "classOf", "(II)I"⟩ ⟨"FiguredBassModel", "classOf", "(II)I"⟩ ∈ WA := wa_p (i := 34) rfl rfl
set_option maxRecDepth 20000 in
theorem k_483 : Cond.code ⟨"FiguredBassModel", "leading", "()I"⟩ prog_9_method_6_code 2 (some .int) ∈ WA := wa_t5 (i := 25) rfl rfl
set_option maxRecDepth 20000 in
theorem k_484 : Cond.instanceMethod ⟨"FiguredBassModel", "leading", "()I"⟩ ∈ WA := wa_t5 (i := 24) rfl rfl
theorem k_485 : Cond.selects "FiguredBassModel" ⟨"FiguredBassModel", "leading", "()I"⟩ ⟨"FiguredBassModel", "leading", "()I"⟩ ∈ WA := wa_p (i := 46) rfl rfl
set_option maxRecDepth 20000 in
theorem k_486 : Cond.code ⟨"FiguredBassModel", "key", "(IZ)V"⟩ prog_9_method_7_code 3 (none) ∈ WA := wa_t4 (i := 153) rfl rfl
set_option maxRecDepth 20000 in
theorem k_487 : Cond.instanceMethod ⟨"FiguredBassModel", "key", "(IZ)V"⟩ ∈ WA := wa_t4 (i := 151) rfl rfl
set_option maxRecDepth 20000 in
theorem k_488 : Cond.selects "FiguredBassModel" ⟨"FiguredBassModel", "key", "(IZ)V"⟩ ⟨"FiguredBassModel", "key", "(IZ)V"⟩ ∈ WA := wa_t4 (i := 152) rfl rfl
set_option maxRecDepth 20000 in
theorem k_489 : Cond.code ⟨"FiguredBassModel", "length", "(I)V"⟩ prog_9_method_8_code 2 (none) ∈ WA := wa_t4 (i := 157) rfl rfl
set_option maxRecDepth 20000 in
theorem k_490 : Cond.instanceMethod ⟨"FiguredBassModel", "length", "(I)V"⟩ ∈ WA := wa_t4 (i := 155) rfl rfl
set_option maxRecDepth 20000 in
theorem k_491 : Cond.selects "FiguredBassModel" ⟨"FiguredBassModel", "length", "(I)V"⟩ ⟨"FiguredBassModel", "length", "(I)V"⟩ ∈ WA := wa_t4 (i := 156) rfl rfl
set_option maxRecDepth 20000 in
theorem k_492 : Cond.code ⟨"FiguredBassModel", "noChord", "(I)Z"⟩ prog_9_method_9_code 2 (some .boolean) ∈ WA := wa_t4 (i := 165) rfl rfl
set_option maxRecDepth 20000 in
theorem k_493 : Cond.instanceMethod ⟨"FiguredBassModel", "noChord", "(I)Z"⟩ ∈ WA := wa_t4 (i := 164) rfl rfl
theorem k_494 : Cond.selects "FiguredBassModel" ⟨"FiguredBassModel", "noChord", "(I)Z"⟩ ⟨"FiguredBassModel", "noChord", "(I)Z"⟩ ∈ WA := wa_p (i := 26) rfl rfl
set_option maxRecDepth 20000 in
theorem k_495 : Cond.code ⟨"FiguredBassModel", "bass", "(IIII)I"⟩ prog_9_method_10_code 7 (some .int) ∈ WA := wa_t4 (i := 161) rfl rfl
set_option maxRecDepth 20000 in
theorem k_496 : Cond.instanceMethod ⟨"FiguredBassModel", "bass", "(IIII)I"⟩ ∈ WA := wa_t4 (i := 159) rfl rfl
set_option maxRecDepth 20000 in
theorem k_497 : Cond.selects "FiguredBassModel" ⟨"FiguredBassModel", "bass", "(IIII)I"⟩ ⟨"FiguredBassModel", "bass", "(IIII)I"⟩ ∈ WA := wa_t4 (i := 160) rfl rfl
set_option maxRecDepth 20000 in
theorem k_498 : Cond.code ⟨"FiguredBassModel", "figure", "(III)I"⟩ prog_9_method_11_code 5 (some .int) ∈ WA := wa_t4 (i := 169) rfl rfl
set_option maxRecDepth 20000 in
theorem k_499 : Cond.instanceMethod ⟨"FiguredBassModel", "figure", "(III)I"⟩ ∈ WA := wa_t4 (i := 167) rfl rfl
set_option maxRecDepth 20000 in
theorem k_500 : Cond.selects "FiguredBassModel" ⟨"FiguredBassModel", "figure", "(III)I"⟩ ⟨"FiguredBassModel", "figure", "(III)I"⟩ ∈ WA := wa_t4 (i := 168) rfl rfl
set_option maxRecDepth 20000 in
theorem k_501 : Cond.code ⟨"FiguredBassModel", "written", "(II)I"⟩ prog_9_method_12_code 4 (some .int) ∈ WA := wa_t4 (i := 197) rfl rfl
set_option maxRecDepth 20000 in
theorem k_502 : Cond.instanceMethod ⟨"FiguredBassModel", "written", "(II)I"⟩ ∈ WA := wa_t4 (i := 196) rfl rfl
theorem k_503 : Cond.selects "FiguredBassModel" ⟨"FiguredBassModel", "written", "(II)I"⟩ ⟨"FiguredBassModel", "written", "(II)I"⟩ ∈ WA := wa_p (i := 32) rfl rfl
set_option maxRecDepth 20000 in
theorem k_504 : Cond.code ⟨"FiguredBassModel", "put", "(II)V"⟩ prog_9_method_13_code 4 (none) ∈ WA := wa_t4 (i := 193) rfl rfl
set_option maxRecDepth 20000 in
theorem k_505 : Cond.instanceMethod ⟨"FiguredBassModel", "put", "(II)V"⟩ ∈ WA := wa_t4 (i := 192) rfl rfl
theorem k_506 : Cond.selects "FiguredBassModel" ⟨"FiguredBassModel", "put", "(II)V"⟩ ⟨"FiguredBassModel", "put", "(II)V"⟩ ∈ WA := wa_p (i := 31) rfl rfl
set_option maxRecDepth 20000 in
theorem k_507 : Cond.code ⟨"FiguredBassModel", "putAll", "(IIII)V"⟩ prog_9_method_14_code 5 (none) ∈ WA := wa_t4 (i := 189) rfl rfl
set_option maxRecDepth 20000 in
theorem k_508 : Cond.instanceMethod ⟨"FiguredBassModel", "putAll", "(IIII)V"⟩ ∈ WA := wa_t4 (i := 188) rfl rfl
theorem k_509 : Cond.selects "FiguredBassModel" ⟨"FiguredBassModel", "putAll", "(IIII)V"⟩ ⟨"FiguredBassModel", "putAll", "(IIII)V"⟩ ∈ WA := wa_p (i := 30) rfl rfl
set_option maxRecDepth 20000 in
theorem k_510 : Cond.code ⟨"FiguredBassModel", "digitsOf", "(I)I"⟩ prog_9_method_15_code 4 (some .int) ∈ WA := wa_t4 (i := 185) rfl rfl
set_option maxRecDepth 20000 in
theorem k_511 : Cond.instanceMethod ⟨"FiguredBassModel", "digitsOf", "(I)I"⟩ ∈ WA := wa_t4 (i := 184) rfl rfl
theorem k_512 : Cond.selects "FiguredBassModel" ⟨"FiguredBassModel", "digitsOf", "(I)I"⟩ ⟨"FiguredBassModel", "digitsOf", "(I)I"⟩ ∈ WA := wa_p (i := 29) rfl rfl
set_option maxRecDepth 20000 in
theorem k_513 : Cond.code ⟨"FiguredBassModel", "unfold", "(I)V"⟩ prog_9_method_16_code 3 (none) ∈ WA := wa_t4 (i := 181) rfl rfl
set_option maxRecDepth 20000 in
theorem k_514 : Cond.instanceMethod ⟨"FiguredBassModel", "unfold", "(I)V"⟩ ∈ WA := wa_t4 (i := 180) rfl rfl
theorem k_515 : Cond.selects "FiguredBassModel" ⟨"FiguredBassModel", "unfold", "(I)V"⟩ ⟨"FiguredBassModel", "unfold", "(I)V"⟩ ∈ WA := wa_p (i := 28) rfl rfl
set_option maxRecDepth 20000 in
theorem k_516 : Cond.code ⟨"FiguredBassModel", "addTone", "(II)V"⟩ prog_9_method_17_code 3 (none) ∈ WA := wa_t4 (i := 201) rfl rfl
set_option maxRecDepth 20000 in
theorem k_517 : Cond.instanceMethod ⟨"FiguredBassModel", "addTone", "(II)V"⟩ ∈ WA := wa_t4 (i := 200) rfl rfl
theorem k_518 : Cond.selects "FiguredBassModel" ⟨"FiguredBassModel", "addTone", "(II)V"⟩ ⟨"FiguredBassModel", "addTone", "(II)V"⟩ ∈ WA := wa_p (i := 33) rfl rfl
set_option maxRecDepth 20000 in
theorem k_519 : Cond.code ⟨"FiguredBassModel", "classIn", "(I)I"⟩ prog_9_method_18_code 3 (some .int) ∈ WA := wa_t4 (i := 217) rfl rfl
set_option maxRecDepth 20000 in
theorem k_520 : Cond.instanceMethod ⟨"FiguredBassModel", "classIn", "(I)I"⟩ ∈ WA := wa_t4 (i := 216) rfl rfl
theorem k_521 : Cond.selects "FiguredBassModel" ⟨"FiguredBassModel", "classIn", "(I)I"⟩ ⟨"FiguredBassModel", "classIn", "(I)I"⟩ ∈ WA := wa_p (i := 37) rfl rfl
set_option maxRecDepth 20000 in
theorem k_522 : Cond.code ⟨"FiguredBassModel", "look", "(I)V"⟩ prog_9_method_19_code 6 (none) ∈ WA := wa_t4 (i := 177) rfl rfl
set_option maxRecDepth 20000 in
theorem k_523 : Cond.instanceMethod ⟨"FiguredBassModel", "look", "(I)V"⟩ ∈ WA := wa_t4 (i := 176) rfl rfl
theorem k_524 : Cond.selects "FiguredBassModel" ⟨"FiguredBassModel", "look", "(I)V"⟩ ⟨"FiguredBassModel", "look", "(I)V"⟩ ∈ WA := wa_p (i := 27) rfl rfl
set_option maxRecDepth 20000 in
theorem k_525 : Cond.code ⟨"FiguredBassModel", "isWhole", "(I)Z"⟩ prog_9_method_20_code 5 (some .boolean) ∈ WA := wa_t4 (i := 225) rfl rfl
set_option maxRecDepth 20000 in
theorem k_526 : Cond.instanceMethod ⟨"FiguredBassModel", "isWhole", "(I)Z"⟩ ∈ WA := wa_t4 (i := 224) rfl rfl
theorem k_527 : Cond.selects "FiguredBassModel" ⟨"FiguredBassModel", "isWhole", "(I)Z"⟩ ⟨"FiguredBassModel", "isWhole", "(I)Z"⟩ ∈ WA := wa_p (i := 38) rfl rfl
set_option maxRecDepth 20000 in
theorem k_528 : Cond.code ⟨"FiguredBassModel", "spell", "(II)I"⟩ prog_9_method_21_code 3 (some .int) ∈ WA := wa_t4 (i := 173) rfl rfl
set_option maxRecDepth 20000 in
theorem k_529 : Cond.instanceMethod ⟨"FiguredBassModel", "spell", "(II)I"⟩ ∈ WA := wa_t4 (i := 171) rfl rfl
set_option maxRecDepth 20000 in
theorem k_530 : Cond.selects "FiguredBassModel" ⟨"FiguredBassModel", "spell", "(II)I"⟩ ⟨"FiguredBassModel", "spell", "(II)I"⟩ ∈ WA := wa_t4 (i := 172) rfl rfl
set_option maxRecDepth 20000 in
theorem k_531 : Cond.code ⟨"FiguredBassModel", "toneOf", "(I)I"⟩ prog_9_method_22_code 3 (some .int) ∈ WA := wa_t4 (i := 233) rfl rfl
set_option maxRecDepth 20000 in
theorem k_532 : Cond.instanceMethod ⟨"FiguredBassModel", "toneOf", "(I)I"⟩ ∈ WA := wa_t4 (i := 232) rfl rfl
theorem k_533 : Cond.selects "FiguredBassModel" ⟨"FiguredBassModel", "toneOf", "(I)I"⟩ ⟨"FiguredBassModel", "toneOf", "(I)I"⟩ ∈ WA := wa_p (i := 40) rfl rfl
set_option maxRecDepth 20000 in
theorem k_534 : Cond.code ⟨"FiguredBassModel", "hasAll", "(III)Z"⟩ prog_9_method_23_code 5 (some .boolean) ∈ WA := wa_t4 (i := 237) rfl rfl
set_option maxRecDepth 20000 in
theorem k_535 : Cond.instanceMethod ⟨"FiguredBassModel", "hasAll", "(III)Z"⟩ ∈ WA := wa_t4 (i := 236) rfl rfl
theorem k_536 : Cond.selects "FiguredBassModel" ⟨"FiguredBassModel", "hasAll", "(III)Z"⟩ ⟨"FiguredBassModel", "hasAll", "(III)Z"⟩ ∈ WA := wa_p (i := 41) rfl rfl
set_option maxRecDepth 20000 in
theorem k_537 : Cond.code ⟨"FiguredBassModel", "writePlaces", "(I)V"⟩ prog_9_method_24_code 7 (none) ∈ WA := wa_t4 (i := 229) rfl rfl
set_option maxRecDepth 20000 in
theorem k_538 : Cond.instanceMethod ⟨"FiguredBassModel", "writePlaces", "(I)V"⟩ ∈ WA := wa_t4 (i := 228) rfl rfl
theorem k_539 : Cond.selects "FiguredBassModel" ⟨"FiguredBassModel", "writePlaces", "(I)V"⟩ ⟨"FiguredBassModel", "writePlaces", "(I)V"⟩ ∈ WA := wa_p (i := 39) rfl rfl
set_option maxRecDepth 20000 in
theorem k_540 : Cond.code ⟨"FiguredBassModel", "places", "(I)I"⟩ prog_9_method_25_code 2 (some .int) ∈ WA := wa_t4 (i := 221) rfl rfl
set_option maxRecDepth 20000 in
theorem k_541 : Cond.instanceMethod ⟨"FiguredBassModel", "places", "(I)I"⟩ ∈ WA := wa_t4 (i := 219) rfl rfl
set_option maxRecDepth 20000 in
theorem k_542 : Cond.selects "FiguredBassModel" ⟨"FiguredBassModel", "places", "(I)I"⟩ ⟨"FiguredBassModel", "places", "(I)I"⟩ ∈ WA := wa_t4 (i := 220) rfl rfl
set_option maxRecDepth 20000 in
theorem k_543 : Cond.code ⟨"FiguredBassModel", "place", "(III)I"⟩ prog_9_method_26_code 5 (some .int) ∈ WA := wa_t5 (i := 1) rfl rfl
set_option maxRecDepth 20000 in
theorem k_544 : Cond.instanceMethod ⟨"FiguredBassModel", "place", "(III)I"⟩ ∈ WA := wa_t4 (i := 239) rfl rfl
set_option maxRecDepth 20000 in
theorem k_545 : Cond.selects "FiguredBassModel" ⟨"FiguredBassModel", "place", "(III)I"⟩ ⟨"FiguredBassModel", "place", "(III)I"⟩ ∈ WA := wa_t5 (i := 0) rfl rfl
set_option maxRecDepth 20000 in
theorem k_546 : Cond.code ⟨"FiguredBassModel", "lookAll", "(Z)Z"⟩ prog_9_method_27_code 5 (some .boolean) ∈ WA := wa_t5 (i := 9) rfl rfl
set_option maxRecDepth 20000 in
theorem k_547 : Cond.instanceMethod ⟨"FiguredBassModel", "lookAll", "(Z)Z"⟩ ∈ WA := wa_t5 (i := 8) rfl rfl
theorem k_548 : Cond.selects "FiguredBassModel" ⟨"FiguredBassModel", "lookAll", "(Z)Z"⟩ ⟨"FiguredBassModel", "lookAll", "(Z)Z"⟩ ∈ WA := wa_p (i := 42) rfl rfl
set_option maxRecDepth 20000 in
theorem k_549 : Cond.code ⟨"FiguredBassModel", "apart", "(II)I"⟩ prog_9_method_28_code 3 (some .int) ∈ WA := wa_t5 (i := 62) rfl rfl
set_option maxRecDepth 20000 in
theorem k_550 : Cond.instanceMethod ⟨"FiguredBassModel", "apart", "(II)I"⟩ ∈ WA := wa_t5 (i := 61) rfl rfl
theorem k_551 : Cond.selects "FiguredBassModel" ⟨"FiguredBassModel", "apart", "(II)I"⟩ ⟨"FiguredBassModel", "apart", "(II)I"⟩ ∈ WA := wa_p (i := 55) rfl rfl
set_option maxRecDepth 20000 in
theorem k_552 : Cond.code ⟨"FiguredBassModel", "isParallel", "(II)Z"⟩ prog_9_method_29_code 4 (some .boolean) ∈ WA := wa_t5 (i := 58) rfl rfl
set_option maxRecDepth 20000 in
theorem k_553 : Cond.instanceMethod ⟨"FiguredBassModel", "isParallel", "(II)Z"⟩ ∈ WA := wa_t5 (i := 57) rfl rfl
theorem k_554 : Cond.selects "FiguredBassModel" ⟨"FiguredBassModel", "isParallel", "(II)Z"⟩ ⟨"FiguredBassModel", "isParallel", "(II)Z"⟩ ∈ WA := wa_p (i := 54) rfl rfl
set_option maxRecDepth 20000 in
theorem k_555 : Cond.code ⟨"FiguredBassModel", "breaksLeading", "(I)Z"⟩ prog_9_method_30_code 2 (some .boolean) ∈ WA := wa_t5 (i := 46) rfl rfl
set_option maxRecDepth 20000 in
theorem k_556 : Cond.instanceMethod ⟨"FiguredBassModel", "breaksLeading", "(I)Z"⟩ ∈ WA := wa_t5 (i := 45) rfl rfl
theorem k_557 : Cond.selects "FiguredBassModel" ⟨"FiguredBassModel", "breaksLeading", "(I)Z"⟩ ⟨"FiguredBassModel", "breaksLeading", "(I)Z"⟩ ∈ WA := wa_p (i := 51) rfl rfl
set_option maxRecDepth 20000 in
theorem k_558 : Cond.code ⟨"FiguredBassModel", "breaksSeventh", "(II)Z"⟩ prog_9_method_31_code 4 (some .boolean) ∈ WA := wa_t5 (i := 50) rfl rfl
set_option maxRecDepth 20000 in
theorem k_559 : Cond.instanceMethod ⟨"FiguredBassModel", "breaksSeventh", "(II)Z"⟩ ∈ WA := wa_t5 (i := 49) rfl rfl
theorem k_560 : Cond.selects "FiguredBassModel" ⟨"FiguredBassModel", "breaksSeventh", "(II)Z"⟩ ⟨"FiguredBassModel", "breaksSeventh", "(II)Z"⟩ ∈ WA := wa_p (i := 52) rfl rfl
set_option maxRecDepth 20000 in
theorem k_561 : Cond.code ⟨"FiguredBassModel", "breaksStep", "(II)Z"⟩ prog_9_method_32_code 7 (some .boolean) ∈ WA := wa_t5 (i := 54) rfl rfl
set_option maxRecDepth 20000 in
theorem k_562 : Cond.instanceMethod ⟨"FiguredBassModel", "breaksStep", "(II)Z"⟩ ∈ WA := wa_t5 (i := 53) rfl rfl
theorem k_563 : Cond.selects "FiguredBassModel" ⟨"FiguredBassModel", "breaksStep", "(II)Z"⟩ ⟨"FiguredBassModel", "breaksStep", "(II)Z"⟩ ∈ WA := wa_p (i := 53) rfl rfl
set_option maxRecDepth 20000 in
theorem k_564 : Cond.code ⟨"FiguredBassModel", "load", "(II)V"⟩ prog_9_method_33_code 3 (none) ∈ WA := wa_t5 (i := 17) rfl rfl
set_option maxRecDepth 20000 in
theorem k_565 : Cond.instanceMethod ⟨"FiguredBassModel", "load", "(II)V"⟩ ∈ WA := wa_t5 (i := 16) rfl rfl
theorem k_566 : Cond.selects "FiguredBassModel" ⟨"FiguredBassModel", "load", "(II)V"⟩ ⟨"FiguredBassModel", "load", "(II)V"⟩ ∈ WA := wa_p (i := 44) rfl rfl
set_option maxRecDepth 20000 in
theorem k_567 : Cond.code ⟨"FiguredBassModel", "loadNext", "(II)V"⟩ prog_9_method_34_code 3 (none) ∈ WA := wa_t5 (i := 34) rfl rfl
set_option maxRecDepth 20000 in
theorem k_568 : Cond.instanceMethod ⟨"FiguredBassModel", "loadNext", "(II)V"⟩ ∈ WA := wa_t5 (i := 33) rfl rfl
theorem k_569 : Cond.selects "FiguredBassModel" ⟨"FiguredBassModel", "loadNext", "(II)V"⟩ ⟨"FiguredBassModel", "loadNext", "(II)V"⟩ ∈ WA := wa_p (i := 48) rfl rfl
set_option maxRecDepth 20000 in
theorem k_570 : Cond.code ⟨"FiguredBassModel", "keeps", "(I)Z"⟩ prog_9_method_35_code 5 (some .boolean) ∈ WA := wa_t5 (i := 42) rfl rfl
set_option maxRecDepth 20000 in
theorem k_571 : Cond.instanceMethod ⟨"FiguredBassModel", "keeps", "(I)Z"⟩ ∈ WA := wa_t5 (i := 41) rfl rfl
theorem k_572 : Cond.selects "FiguredBassModel" ⟨"FiguredBassModel", "keeps", "(I)Z"⟩ ⟨"FiguredBassModel", "keeps", "(I)Z"⟩ ∈ WA := wa_p (i := 50) rfl rfl
set_option maxRecDepth 20000 in
theorem k_573 : Cond.code ⟨"FiguredBassModel", "way", "(I)I"⟩ prog_9_method_36_code 2 (some .int) ∈ WA := wa_t5 (i := 38) rfl rfl
set_option maxRecDepth 20000 in
theorem k_574 : Cond.instanceMethod ⟨"FiguredBassModel", "way", "(I)I"⟩ ∈ WA := wa_t5 (i := 37) rfl rfl
theorem k_575 : Cond.selects "FiguredBassModel" ⟨"FiguredBassModel", "way", "(I)I"⟩ ⟨"FiguredBassModel", "way", "(I)I"⟩ ∈ WA := wa_p (i := 49) rfl rfl
set_option maxRecDepth 20000 in
theorem k_576 : Cond.code ⟨"FiguredBassModel", "fee", "(II)I"⟩ prog_9_method_37_code 5 (some .int) ∈ WA := wa_t5 (i := 29) rfl rfl
set_option maxRecDepth 20000 in
theorem k_577 : Cond.instanceMethod ⟨"FiguredBassModel", "fee", "(II)I"⟩ ∈ WA := wa_t5 (i := 28) rfl rfl
theorem k_578 : Cond.selects "FiguredBassModel" ⟨"FiguredBassModel", "fee", "(II)I"⟩ ⟨"FiguredBassModel", "fee", "(II)I"⟩ ∈ WA := wa_p (i := 47) rfl rfl
set_option maxRecDepth 20000 in
theorem k_579 : Cond.code ⟨"FiguredBassModel", "fees", "(I)I"⟩ prog_9_method_38_code 2 (some .int) ∈ WA := wa_t5 (i := 21) rfl rfl
set_option maxRecDepth 20000 in
theorem k_580 : Cond.instanceMethod ⟨"FiguredBassModel", "fees", "(I)I"⟩ ∈ WA := wa_t5 (i := 20) rfl rfl
theorem k_581 : Cond.selects "FiguredBassModel" ⟨"FiguredBassModel", "fees", "(I)I"⟩ ⟨"FiguredBassModel", "fees", "(I)I"⟩ ∈ WA := wa_p (i := 45) rfl rfl
set_option maxRecDepth 20000 in
theorem k_582 : Cond.code ⟨"FiguredBassModel", "goBack", "(I)V"⟩ prog_9_method_39_code 7 (none) ∈ WA := wa_t5 (i := 13) rfl rfl
set_option maxRecDepth 20000 in
theorem k_583 : Cond.instanceMethod ⟨"FiguredBassModel", "goBack", "(I)V"⟩ ∈ WA := wa_t5 (i := 12) rfl rfl
theorem k_584 : Cond.selects "FiguredBassModel" ⟨"FiguredBassModel", "goBack", "(I)V"⟩ ⟨"FiguredBassModel", "goBack", "(I)V"⟩ ∈ WA := wa_p (i := 43) rfl rfl
set_option maxRecDepth 20000 in
theorem k_585 : Cond.code ⟨"FiguredBassModel", "goForth", "(I)V"⟩ prog_9_method_40_code 4 (none) ∈ WA := wa_t5 (i := 70) rfl rfl
set_option maxRecDepth 20000 in
theorem k_586 : Cond.instanceMethod ⟨"FiguredBassModel", "goForth", "(I)V"⟩ ∈ WA := wa_t5 (i := 69) rfl rfl
theorem k_587 : Cond.selects "FiguredBassModel" ⟨"FiguredBassModel", "goForth", "(I)V"⟩ ⟨"FiguredBassModel", "goForth", "(I)V"⟩ ∈ WA := wa_p (i := 57) rfl rfl
set_option maxRecDepth 20000 in
theorem k_588 : Cond.code ⟨"FiguredBassModel", "barred", "()I"⟩ prog_9_method_41_code 4 (some .int) ∈ WA := wa_t5 (i := 66) rfl rfl
set_option maxRecDepth 20000 in
theorem k_589 : Cond.instanceMethod ⟨"FiguredBassModel", "barred", "()I"⟩ ∈ WA := wa_t5 (i := 65) rfl rfl
theorem k_590 : Cond.selects "FiguredBassModel" ⟨"FiguredBassModel", "barred", "()I"⟩ ⟨"FiguredBassModel", "barred", "()I"⟩ ∈ WA := wa_p (i := 56) rfl rfl
set_option maxRecDepth 20000 in
theorem k_591 : Cond.code ⟨"FiguredBassModel", "lay", "(III)V"⟩ prog_9_method_42_code 5 (none) ∈ WA := wa_t5 (i := 74) rfl rfl
set_option maxRecDepth 20000 in
theorem k_592 : Cond.instanceMethod ⟨"FiguredBassModel", "lay", "(III)V"⟩ ∈ WA := wa_t5 (i := 73) rfl rfl
theorem k_593 : Cond.selects "FiguredBassModel" ⟨"FiguredBassModel", "lay", "(III)V"⟩ ⟨"FiguredBassModel", "lay", "(III)V"⟩ ∈ WA := wa_p (i := 58) rfl rfl
set_option maxRecDepth 20000 in
theorem k_594 : Cond.code ⟨"FiguredBassModel", "follow", "(II)I"⟩ prog_9_method_43_code 5 (some .int) ∈ WA := wa_t5 (i := 78) rfl rfl
set_option maxRecDepth 20000 in
theorem k_595 : Cond.instanceMethod ⟨"FiguredBassModel", "follow", "(II)I"⟩ ∈ WA := wa_t5 (i := 77) rfl rfl
theorem k_596 : Cond.selects "FiguredBassModel" ⟨"FiguredBassModel", "follow", "(II)I"⟩ ⟨"FiguredBassModel", "follow", "(II)I"⟩ ∈ WA := wa_p (i := 59) rfl rfl
set_option maxRecDepth 20000 in
theorem k_597 : Cond.code ⟨"FiguredBassModel", "realise", "()I"⟩ prog_9_method_44_code 6 (some .int) ∈ WA := wa_t5 (i := 5) rfl rfl
set_option maxRecDepth 20000 in
theorem k_598 : Cond.instanceMethod ⟨"FiguredBassModel", "realise", "()I"⟩ ∈ WA := wa_t5 (i := 3) rfl rfl
set_option maxRecDepth 20000 in
theorem k_599 : Cond.selects "FiguredBassModel" ⟨"FiguredBassModel", "realise", "()I"⟩ ⟨"FiguredBassModel", "realise", "()I"⟩ ∈ WA := wa_t5 (i := 4) rfl rfl
set_option maxRecDepth 20000 in
theorem k_600 : Cond.code ⟨"FiguredBassModel", "noVoice", "(II)Z"⟩ prog_9_method_45_code 3 (some .boolean) ∈ WA := wa_t5 (i := 86) rfl rfl
set_option maxRecDepth 20000 in
theorem k_601 : Cond.instanceMethod ⟨"FiguredBassModel", "noVoice", "(II)Z"⟩ ∈ WA := wa_t5 (i := 85) rfl rfl
theorem k_602 : Cond.selects "FiguredBassModel" ⟨"FiguredBassModel", "noVoice", "(II)Z"⟩ ⟨"FiguredBassModel", "noVoice", "(II)Z"⟩ ∈ WA := wa_p (i := 60) rfl rfl
set_option maxRecDepth 20000 in
theorem k_603 : Cond.code ⟨"FiguredBassModel", "note", "(II)I"⟩ prog_9_method_46_code 3 (some .int) ∈ WA := wa_t5 (i := 82) rfl rfl
set_option maxRecDepth 20000 in
theorem k_604 : Cond.instanceMethod ⟨"FiguredBassModel", "note", "(II)I"⟩ ∈ WA := wa_t5 (i := 80) rfl rfl
set_option maxRecDepth 20000 in
theorem k_605 : Cond.selects "FiguredBassModel" ⟨"FiguredBassModel", "note", "(II)I"⟩ ⟨"FiguredBassModel", "note", "(II)I"⟩ ∈ WA := wa_t5 (i := 81) rfl rfl
set_option maxRecDepth 20000 in
theorem k_606 : Cond.code ⟨"FiguredBassModel", "cost", "(I)I"⟩ prog_9_method_47_code 2 (some .int) ∈ WA := wa_t5 (i := 90) rfl rfl
set_option maxRecDepth 20000 in
theorem k_607 : Cond.instanceMethod ⟨"FiguredBassModel", "cost", "(I)I"⟩ ∈ WA := wa_t5 (i := 88) rfl rfl
set_option maxRecDepth 20000 in
theorem k_608 : Cond.selects "FiguredBassModel" ⟨"FiguredBassModel", "cost", "(I)I"⟩ ⟨"FiguredBassModel", "cost", "(I)I"⟩ ∈ WA := wa_t5 (i := 89) rfl rfl
set_option maxRecDepth 20000 in
theorem k_609 : Cond.code ⟨"FiguredBassModel", "pupil", "(III)V"⟩ prog_9_method_48_code 4 (none) ∈ WA := wa_t5 (i := 94) rfl rfl
set_option maxRecDepth 20000 in
theorem k_610 : Cond.instanceMethod ⟨"FiguredBassModel", "pupil", "(III)V"⟩ ∈ WA := wa_t5 (i := 92) rfl rfl
set_option maxRecDepth 20000 in
theorem k_611 : Cond.selects "FiguredBassModel" ⟨"FiguredBassModel", "pupil", "(III)V"⟩ ⟨"FiguredBassModel", "pupil", "(III)V"⟩ ∈ WA := wa_t5 (i := 93) rfl rfl
set_option maxRecDepth 20000 in
theorem k_612 : Cond.code ⟨"FiguredBassModel", "mark", "(IIIZ)V"⟩ prog_9_method_49_code 5 (none) ∈ WA := wa_t5 (i := 110) rfl rfl
set_option maxRecDepth 20000 in
theorem k_613 : Cond.instanceMethod ⟨"FiguredBassModel", "mark", "(IIIZ)V"⟩ ∈ WA := wa_t5 (i := 109) rfl rfl
theorem k_614 : Cond.selects "FiguredBassModel" ⟨"FiguredBassModel", "mark", "(IIIZ)V"⟩ ⟨"FiguredBassModel", "mark", "(IIIZ)V"⟩ ∈ WA := wa_p (i := 63) rfl rfl
set_option maxRecDepth 20000 in
theorem k_615 : Cond.code ⟨"FiguredBassModel", "loadPupil", "(I)V"⟩ prog_9_method_50_code 3 (none) ∈ WA := wa_t5 (i := 102) rfl rfl
set_option maxRecDepth 20000 in
theorem k_616 : Cond.instanceMethod ⟨"FiguredBassModel", "loadPupil", "(I)V"⟩ ∈ WA := wa_t5 (i := 101) rfl rfl
theorem k_617 : Cond.selects "FiguredBassModel" ⟨"FiguredBassModel", "loadPupil", "(I)V"⟩ ⟨"FiguredBassModel", "loadPupil", "(I)V"⟩ ∈ WA := wa_p (i := 61) rfl rfl
set_option maxRecDepth 20000 in
theorem k_618 : Cond.code ⟨"FiguredBassModel", "markOne", "(I)V"⟩ prog_9_method_51_code 4 (none) ∈ WA := wa_t5 (i := 106) rfl rfl
set_option maxRecDepth 20000 in
theorem k_619 : Cond.instanceMethod ⟨"FiguredBassModel", "markOne", "(I)V"⟩ ∈ WA := wa_t5 (i := 105) rfl rfl
theorem k_620 : Cond.selects "FiguredBassModel" ⟨"FiguredBassModel", "markOne", "(I)V"⟩ ⟨"FiguredBassModel", "markOne", "(I)V"⟩ ∈ WA := wa_p (i := 62) rfl rfl
set_option maxRecDepth 20000 in
theorem k_621 : Cond.code ⟨"FiguredBassModel", "markRules", "(I)V"⟩ prog_9_method_52_code 4 (none) ∈ WA := wa_t5 (i := 114) rfl rfl
set_option maxRecDepth 20000 in
theorem k_622 : Cond.instanceMethod ⟨"FiguredBassModel", "markRules", "(I)V"⟩ ∈ WA := wa_t5 (i := 113) rfl rfl
theorem k_623 : Cond.selects "FiguredBassModel" ⟨"FiguredBassModel", "markRules", "(I)V"⟩ ⟨"FiguredBassModel", "markRules", "(I)V"⟩ ∈ WA := wa_p (i := 64) rfl rfl
set_option maxRecDepth 20000 in
theorem k_624 : Cond.code ⟨"FiguredBassModel", "markTones", "(I)V"⟩ prog_9_method_53_code 5 (none) ∈ WA := wa_t5 (i := 118) rfl rfl
set_option maxRecDepth 20000 in
theorem k_625 : Cond.instanceMethod ⟨"FiguredBassModel", "markTones", "(I)V"⟩ ∈ WA := wa_t5 (i := 117) rfl rfl
theorem k_626 : Cond.selects "FiguredBassModel" ⟨"FiguredBassModel", "markTones", "(I)V"⟩ ⟨"FiguredBassModel", "markTones", "(I)V"⟩ ∈ WA := wa_p (i := 65) rfl rfl
set_option maxRecDepth 20000 in
theorem k_627 : Cond.code ⟨"FiguredBassModel", "faults", "()I"⟩ prog_9_method_54_code 2 (some .int) ∈ WA := wa_t5 (i := 98) rfl rfl
set_option maxRecDepth 20000 in
theorem k_628 : Cond.instanceMethod ⟨"FiguredBassModel", "faults", "()I"⟩ ∈ WA := wa_t5 (i := 96) rfl rfl
set_option maxRecDepth 20000 in
theorem k_629 : Cond.selects "FiguredBassModel" ⟨"FiguredBassModel", "faults", "()I"⟩ ⟨"FiguredBassModel", "faults", "()I"⟩ ∈ WA := wa_t5 (i := 97) rfl rfl
set_option maxRecDepth 20000 in
theorem k_630 : Cond.code ⟨"FiguredBassModel", "fault", "(II)I"⟩ prog_9_method_55_code 3 (some .int) ∈ WA := wa_t5 (i := 122) rfl rfl
set_option maxRecDepth 20000 in
theorem k_631 : Cond.instanceMethod ⟨"FiguredBassModel", "fault", "(II)I"⟩ ∈ WA := wa_t5 (i := 120) rfl rfl
set_option maxRecDepth 20000 in
theorem k_632 : Cond.selects "FiguredBassModel" ⟨"FiguredBassModel", "fault", "(II)I"⟩ ⟨"FiguredBassModel", "fault", "(II)I"⟩ ∈ WA := wa_t5 (i := 121) rfl rfl
set_option maxRecDepth 20000 in
theorem k_633 : Cond.code ⟨"java/lang/Math", "floorMod", "(II)I"⟩ prog_14_method_50_code 3 (some .int) ∈ WA := wa_t2 (i := 79) rfl rfl
set_option maxRecDepth 20000 in
theorem k_634 : Cond.initialized "java/lang/Math" ∈ WA := wa_t1 (i := 13) rfl rfl
set_option maxRecDepth 20000 in
theorem k_635 : Cond.static ⟨"java/lang/Math", "floorMod", "(II)I"⟩ ∈ WA := wa_t2 (i := 78) rfl rfl
set_option maxRecDepth 20000 in
theorem k_636 : Cond.laysFinal "FiguredBass" "FiguredBass" "scale" "LFiguredBass$Key;" ∈ WA := wa_t1 (i := 222) rfl rfl
set_option maxRecDepth 20000 in
theorem k_637 : Cond.laysFinal "FiguredBass" "FiguredBass" "chords" "[LFiguredBass$Chord;" ∈ WA := wa_t1 (i := 224) rfl rfl
set_option maxRecDepth 20000 in
theorem k_638 : Cond.laysFinal "FiguredBass" "FiguredBass" "realisation" "LFiguredBass$Realisation;" ∈ WA := wa_t1 (i := 226) rfl rfl
set_option maxRecDepth 20000 in
theorem k_639 : Cond.laysFinal "FiguredBass" "FiguredBass" "examination" "LFiguredBass$Examination;" ∈ WA := wa_t1 (i := 228) rfl rfl
set_option maxRecDepth 20000 in
theorem k_640 : Cond.lays "FiguredBass" "FiguredBass" "counting" "I" ∈ WA := wa_t1 (i := 230) rfl rfl
set_option maxRecDepth 20000 in
theorem k_641 : Cond.laysFinal "FiguredBass$Key" "FiguredBass$Key" "alterations" "[I" ∈ WA := wa_t1 (i := 33) rfl rfl
set_option maxRecDepth 20000 in
theorem k_642 : Cond.lays "FiguredBass$Key" "FiguredBass$Key" "leadingClass" "I" ∈ WA := wa_t1 (i := 35) rfl rfl
set_option maxRecDepth 20000 in
theorem k_643 : Cond.laysFinal "FiguredBass$Row" "FiguredBass$Row" "numbers" "[I" ∈ WA := wa_t1 (i := 141) rfl rfl
set_option maxRecDepth 20000 in
theorem k_644 : Cond.laysFinal "FiguredBass$Row" "FiguredBass$Row" "signs" "[I" ∈ WA := wa_t1 (i := 143) rfl rfl
set_option maxRecDepth 20000 in
theorem k_645 : Cond.lays "FiguredBass$Row" "FiguredBass$Row" "size" "I" ∈ WA := wa_t1 (i := 145) rfl rfl
set_option maxRecDepth 20000 in
theorem k_646 : Cond.laysFinal "FiguredBass$Chord" "FiguredBass$Chord" "written" "LFiguredBass$Row;" ∈ WA := wa_t1 (i := 180) rfl rfl
set_option maxRecDepth 20000 in
theorem k_647 : Cond.laysFinal "FiguredBass$Chord" "FiguredBass$Chord" "full" "LFiguredBass$Row;" ∈ WA := wa_t1 (i := 182) rfl rfl
set_option maxRecDepth 20000 in
theorem k_648 : Cond.laysFinal "FiguredBass$Chord" "FiguredBass$Chord" "letters" "[I" ∈ WA := wa_t1 (i := 184) rfl rfl
set_option maxRecDepth 20000 in
theorem k_649 : Cond.laysFinal "FiguredBass$Chord" "FiguredBass$Chord" "classes" "[I" ∈ WA := wa_t1 (i := 186) rfl rfl
set_option maxRecDepth 20000 in
theorem k_650 : Cond.laysFinal "FiguredBass$Chord" "FiguredBass$Chord" "letterOfClass" "[I" ∈ WA := wa_t1 (i := 188) rfl rfl
set_option maxRecDepth 20000 in
theorem k_651 : Cond.laysFinal "FiguredBass$Chord" "FiguredBass$Chord" "placed" "[I" ∈ WA := wa_t1 (i := 190) rfl rfl
set_option maxRecDepth 20000 in
theorem k_652 : Cond.laysFinal "FiguredBass$Chord" "FiguredBass$Chord" "pupilSounds" "[I" ∈ WA := wa_t1 (i := 192) rfl rfl
set_option maxRecDepth 20000 in
theorem k_653 : Cond.lays "FiguredBass$Chord" "FiguredBass$Chord" "bassLetter" "I" ∈ WA := wa_t1 (i := 194) rfl rfl
set_option maxRecDepth 20000 in
theorem k_654 : Cond.lays "FiguredBass$Chord" "FiguredBass$Chord" "bassAlteration" "I" ∈ WA := wa_t1 (i := 196) rfl rfl
set_option maxRecDepth 20000 in
theorem k_655 : Cond.lays "FiguredBass$Chord" "FiguredBass$Chord" "bassSound" "I" ∈ WA := wa_t1 (i := 198) rfl rfl
set_option maxRecDepth 20000 in
theorem k_656 : Cond.lays "FiguredBass$Chord" "FiguredBass$Chord" "toneCount" "I" ∈ WA := wa_t1 (i := 200) rfl rfl
set_option maxRecDepth 20000 in
theorem k_657 : Cond.lays "FiguredBass$Chord" "FiguredBass$Chord" "optionalTone" "I" ∈ WA := wa_t1 (i := 202) rfl rfl
set_option maxRecDepth 20000 in
theorem k_658 : Cond.lays "FiguredBass$Chord" "FiguredBass$Chord" "leadingClass" "I" ∈ WA := wa_t1 (i := 204) rfl rfl
set_option maxRecDepth 20000 in
theorem k_659 : Cond.lays "FiguredBass$Chord" "FiguredBass$Chord" "seventhClass" "I" ∈ WA := wa_t1 (i := 206) rfl rfl
set_option maxRecDepth 20000 in
theorem k_660 : Cond.lays "FiguredBass$Chord" "FiguredBass$Chord" "thirdClass" "I" ∈ WA := wa_t1 (i := 208) rfl rfl
set_option maxRecDepth 20000 in
theorem k_661 : Cond.lays "FiguredBass$Chord" "FiguredBass$Chord" "whole" "Z" ∈ WA := wa_t1 (i := 210) rfl rfl
set_option maxRecDepth 20000 in
theorem k_662 : Cond.lays "FiguredBass$Chord" "FiguredBass$Chord" "placementCount" "I" ∈ WA := wa_t1 (i := 212) rfl rfl
set_option maxRecDepth 20000 in
theorem k_663 : Cond.lays "FiguredBass$Chord" "FiguredBass$Chord" "gathered" "Z" ∈ WA := wa_t1 (i := 214) rfl rfl
set_option maxRecDepth 20000 in
theorem k_664 : Cond.laysFinal "FiguredBass$Move" "FiguredBass$Move" "from" "[I" ∈ WA := wa_t1 (i := 59) rfl rfl
set_option maxRecDepth 20000 in
theorem k_665 : Cond.laysFinal "FiguredBass$Move" "FiguredBass$Move" "to" "[I" ∈ WA := wa_t1 (i := 61) rfl rfl
set_option maxRecDepth 20000 in
theorem k_666 : Cond.laysFinal "FiguredBass$Move" "FiguredBass$Move" "fromLetters" "[I" ∈ WA := wa_t1 (i := 63) rfl rfl
set_option maxRecDepth 20000 in
theorem k_667 : Cond.laysFinal "FiguredBass$Move" "FiguredBass$Move" "toLetters" "[I" ∈ WA := wa_t1 (i := 65) rfl rfl
set_option maxRecDepth 20000 in
theorem k_668 : Cond.lays "FiguredBass$Move" "FiguredBass$Move" "leadingClass" "I" ∈ WA := wa_t1 (i := 67) rfl rfl
set_option maxRecDepth 20000 in
theorem k_669 : Cond.lays "FiguredBass$Move" "FiguredBass$Move" "seventhClass" "I" ∈ WA := wa_t1 (i := 69) rfl rfl
set_option maxRecDepth 20000 in
theorem k_670 : Cond.laysFinal "FiguredBass$Realisation" "FiguredBass$Realisation" "move" "LFiguredBass$Move;" ∈ WA := wa_t1 (i := 82) rfl rfl
set_option maxRecDepth 20000 in
theorem k_671 : Cond.laysFinal "FiguredBass$Realisation" "FiguredBass$Realisation" "costToEnd" "[[I" ∈ WA := wa_t1 (i := 84) rfl rfl
set_option maxRecDepth 20000 in
theorem k_672 : Cond.laysFinal "FiguredBass$Realisation" "FiguredBass$Realisation" "following" "[[I" ∈ WA := wa_t1 (i := 86) rfl rfl
set_option maxRecDepth 20000 in
theorem k_673 : Cond.laysFinal "FiguredBass$Realisation" "FiguredBass$Realisation" "reached" "[Z" ∈ WA := wa_t1 (i := 88) rfl rfl
set_option maxRecDepth 20000 in
theorem k_674 : Cond.laysFinal "FiguredBass$Realisation" "FiguredBass$Realisation" "reachedNext" "[Z" ∈ WA := wa_t1 (i := 90) rfl rfl
set_option maxRecDepth 20000 in
theorem k_675 : Cond.laysFinal "FiguredBass$Realisation" "FiguredBass$Realisation" "chosen" "[I" ∈ WA := wa_t1 (i := 92) rfl rfl
set_option maxRecDepth 20000 in
theorem k_676 : Cond.lays "FiguredBass$Realisation" "FiguredBass$Realisation" "laidOut" "Z" ∈ WA := wa_t1 (i := 94) rfl rfl
set_option maxRecDepth 20000 in
theorem k_677 : Cond.laysFinal "FiguredBass$Examination" "FiguredBass$Examination" "move" "LFiguredBass$Move;" ∈ WA := wa_t1 (i := 112) rfl rfl
set_option maxRecDepth 20000 in
theorem k_678 : Cond.laysFinal "FiguredBass$Examination" "FiguredBass$Examination" "where" "[I" ∈ WA := wa_t1 (i := 114) rfl rfl
set_option maxRecDepth 20000 in
theorem k_679 : Cond.laysFinal "FiguredBass$Examination" "FiguredBass$Examination" "kinds" "[I" ∈ WA := wa_t1 (i := 116) rfl rfl
set_option maxRecDepth 20000 in
theorem k_680 : Cond.laysFinal "FiguredBass$Examination" "FiguredBass$Examination" "voices" "[I" ∈ WA := wa_t1 (i := 118) rfl rfl
set_option maxRecDepth 20000 in
theorem k_681 : Cond.lays "FiguredBass$Examination" "FiguredBass$Examination" "found" "I" ∈ WA := wa_t1 (i := 120) rfl rfl
set_option maxRecDepth 20000 in
theorem k_682 : Cond.lays "FiguredBassModel" "FiguredBassModel" "thrown" "I" ∈ WA := wa_t4 (i := 61) rfl rfl
set_option maxRecDepth 20000 in
theorem k_683 : Cond.laysFinal "FiguredBassModel" "FiguredBassModel" "bases" "[I" ∈ WA := wa_t4 (i := 63) rfl rfl
set_option maxRecDepth 20000 in
theorem k_684 : Cond.laysFinal "FiguredBassModel" "FiguredBassModel" "sharps" "[I" ∈ WA := wa_t4 (i := 65) rfl rfl
set_option maxRecDepth 20000 in
theorem k_685 : Cond.laysFinal "FiguredBassModel" "FiguredBassModel" "lows" "[I" ∈ WA := wa_t4 (i := 67) rfl rfl
set_option maxRecDepth 20000 in
theorem k_686 : Cond.laysFinal "FiguredBassModel" "FiguredBassModel" "highs" "[I" ∈ WA := wa_t4 (i := 69) rfl rfl
set_option maxRecDepth 20000 in
theorem k_687 : Cond.lays "FiguredBassModel" "FiguredBassModel" "fifths" "I" ∈ WA := wa_t4 (i := 71) rfl rfl
set_option maxRecDepth 20000 in
theorem k_688 : Cond.lays "FiguredBassModel" "FiguredBassModel" "minor" "Z" ∈ WA := wa_t4 (i := 73) rfl rfl
set_option maxRecDepth 20000 in
theorem k_689 : Cond.lays "FiguredBassModel" "FiguredBassModel" "n" "I" ∈ WA := wa_t4 (i := 75) rfl rfl
set_option maxRecDepth 20000 in
theorem k_690 : Cond.laysFinal "FiguredBassModel" "FiguredBassModel" "basses" "[I" ∈ WA := wa_t4 (i := 77) rfl rfl
set_option maxRecDepth 20000 in
theorem k_691 : Cond.laysFinal "FiguredBassModel" "FiguredBassModel" "letters" "[I" ∈ WA := wa_t4 (i := 79) rfl rfl
set_option maxRecDepth 20000 in
theorem k_692 : Cond.laysFinal "FiguredBassModel" "FiguredBassModel" "alterations" "[I" ∈ WA := wa_t4 (i := 81) rfl rfl
set_option maxRecDepth 20000 in
theorem k_693 : Cond.laysFinal "FiguredBassModel" "FiguredBassModel" "many" "[I" ∈ WA := wa_t4 (i := 83) rfl rfl
set_option maxRecDepth 20000 in
theorem k_694 : Cond.laysFinal "FiguredBassModel" "FiguredBassModel" "numbers" "[I" ∈ WA := wa_t4 (i := 85) rfl rfl
set_option maxRecDepth 20000 in
theorem k_695 : Cond.laysFinal "FiguredBassModel" "FiguredBassModel" "signs" "[I" ∈ WA := wa_t4 (i := 87) rfl rfl
set_option maxRecDepth 20000 in
theorem k_696 : Cond.lays "FiguredBassModel" "FiguredBassModel" "size" "I" ∈ WA := wa_t4 (i := 89) rfl rfl
set_option maxRecDepth 20000 in
theorem k_697 : Cond.laysFinal "FiguredBassModel" "FiguredBassModel" "row" "[I" ∈ WA := wa_t4 (i := 91) rfl rfl
set_option maxRecDepth 20000 in
theorem k_698 : Cond.laysFinal "FiguredBassModel" "FiguredBassModel" "rowSigns" "[I" ∈ WA := wa_t4 (i := 93) rfl rfl
set_option maxRecDepth 20000 in
theorem k_699 : Cond.lays "FiguredBassModel" "FiguredBassModel" "tones" "I" ∈ WA := wa_t4 (i := 95) rfl rfl
set_option maxRecDepth 20000 in
theorem k_700 : Cond.laysFinal "FiguredBassModel" "FiguredBassModel" "toneLetters" "[I" ∈ WA := wa_t4 (i := 97) rfl rfl
set_option maxRecDepth 20000 in
theorem k_701 : Cond.laysFinal "FiguredBassModel" "FiguredBassModel" "toneClasses" "[I" ∈ WA := wa_t4 (i := 99) rfl rfl
set_option maxRecDepth 20000 in
theorem k_702 : Cond.lays "FiguredBassModel" "FiguredBassModel" "optional" "I" ∈ WA := wa_t4 (i := 101) rfl rfl
set_option maxRecDepth 20000 in
theorem k_703 : Cond.lays "FiguredBassModel" "FiguredBassModel" "seventh" "I" ∈ WA := wa_t4 (i := 103) rfl rfl
set_option maxRecDepth 20000 in
theorem k_704 : Cond.lays "FiguredBassModel" "FiguredBassModel" "third" "I" ∈ WA := wa_t4 (i := 105) rfl rfl
set_option maxRecDepth 20000 in
theorem k_705 : Cond.laysFinal "FiguredBassModel" "FiguredBassModel" "letterOf" "[I" ∈ WA := wa_t4 (i := 107) rfl rfl
set_option maxRecDepth 20000 in
theorem k_706 : Cond.laysFinal "FiguredBassModel" "FiguredBassModel" "sevenths" "[I" ∈ WA := wa_t4 (i := 109) rfl rfl
set_option maxRecDepth 20000 in
theorem k_707 : Cond.laysFinal "FiguredBassModel" "FiguredBassModel" "thirds" "[I" ∈ WA := wa_t4 (i := 111) rfl rfl
set_option maxRecDepth 20000 in
theorem k_708 : Cond.laysFinal "FiguredBassModel" "FiguredBassModel" "counts" "[I" ∈ WA := wa_t4 (i := 113) rfl rfl
set_option maxRecDepth 20000 in
theorem k_709 : Cond.laysFinal "FiguredBassModel" "FiguredBassModel" "first" "[I" ∈ WA := wa_t4 (i := 115) rfl rfl
set_option maxRecDepth 20000 in
theorem k_710 : Cond.laysFinal "FiguredBassModel" "FiguredBassModel" "second" "[I" ∈ WA := wa_t4 (i := 117) rfl rfl
set_option maxRecDepth 20000 in
theorem k_711 : Cond.laysFinal "FiguredBassModel" "FiguredBassModel" "last" "[I" ∈ WA := wa_t4 (i := 119) rfl rfl
set_option maxRecDepth 20000 in
theorem k_712 : Cond.laysFinal "FiguredBassModel" "FiguredBassModel" "onward" "[I" ∈ WA := wa_t4 (i := 121) rfl rfl
set_option maxRecDepth 20000 in
theorem k_713 : Cond.laysFinal "FiguredBassModel" "FiguredBassModel" "reached" "[Z" ∈ WA := wa_t4 (i := 123) rfl rfl
set_option maxRecDepth 20000 in
theorem k_714 : Cond.lays "FiguredBassModel" "FiguredBassModel" "laid" "Z" ∈ WA := wa_t4 (i := 125) rfl rfl
set_option maxRecDepth 20000 in
theorem k_715 : Cond.laysFinal "FiguredBassModel" "FiguredBassModel" "laidSounds" "[I" ∈ WA := wa_t4 (i := 127) rfl rfl
set_option maxRecDepth 20000 in
theorem k_716 : Cond.laysFinal "FiguredBassModel" "FiguredBassModel" "laidCosts" "[I" ∈ WA := wa_t4 (i := 129) rfl rfl
set_option maxRecDepth 20000 in
theorem k_717 : Cond.laysFinal "FiguredBassModel" "FiguredBassModel" "pupils" "[I" ∈ WA := wa_t4 (i := 131) rfl rfl
set_option maxRecDepth 20000 in
theorem k_718 : Cond.lays "FiguredBassModel" "FiguredBassModel" "found" "I" ∈ WA := wa_t4 (i := 133) rfl rfl
set_option maxRecDepth 20000 in
theorem k_719 : Cond.laysFinal "FiguredBassModel" "FiguredBassModel" "foundChord" "[I" ∈ WA := wa_t4 (i := 135) rfl rfl
set_option maxRecDepth 20000 in
theorem k_720 : Cond.laysFinal "FiguredBassModel" "FiguredBassModel" "foundKind" "[I" ∈ WA := wa_t4 (i := 137) rfl rfl
set_option maxRecDepth 20000 in
theorem k_721 : Cond.laysFinal "FiguredBassModel" "FiguredBassModel" "foundVoices" "[I" ∈ WA := wa_t4 (i := 139) rfl rfl
set_option maxRecDepth 20000 in
theorem k_722 : Cond.laysFinal "FiguredBassModel" "FiguredBassModel" "from" "[I" ∈ WA := wa_t4 (i := 141) rfl rfl
set_option maxRecDepth 20000 in
theorem k_723 : Cond.laysFinal "FiguredBassModel" "FiguredBassModel" "to" "[I" ∈ WA := wa_t4 (i := 143) rfl rfl
set_option maxRecDepth 20000 in
theorem k_724 : Cond.static ⟨"java/lang/Math", "max", "(II)I"⟩ ∈ WA := wa_t3 (i := 28) rfl rfl
set_option maxRecDepth 20000 in
theorem k_725 : Cond.code Lib.Math.max.name Lib.Math.max.code 2 (some .int) ∈ WA := wa_t3 (i := 29) rfl rfl
set_option maxRecDepth 20000 in
theorem k_726 : Cond.static ⟨"java/lang/Math", "min", "(II)I"⟩ ∈ WA := wa_t3 (i := 31) rfl rfl
set_option maxRecDepth 20000 in
theorem k_727 : Cond.code Lib.Math.min.name Lib.Math.min.code 2 (some .int) ∈ WA := wa_t3 (i := 32) rfl rfl
set_option maxRecDepth 20000 in
theorem k_728 : Cond.static ⟨"java/lang/Math", "abs", "(I)I"⟩ ∈ WA := wa_t3 (i := 109) rfl rfl
set_option maxRecDepth 20000 in
theorem k_729 : Cond.code Lib.Math.abs.name Lib.Math.abs.code 1 (some .int) ∈ WA := wa_t3 (i := 110) rfl rfl
set_option maxRecDepth 20000 in
theorem k_730 : Cond.constant "FiguredBassModel" 220 (1000000 : Int32) ∈ WA := wa_t5 (i := 30) rfl rfl
set_option maxRecDepth 20000 in
theorem k_731 : Cond.constantLong "FiguredBass" 67 (12 : Int64) ∈ WA := wa_t2 (i := 174) rfl rfl
set_option maxRecDepth 20000 in
theorem k_732 : Cond.constantLong "FiguredBass" 73 (36 : Int64) ∈ WA := wa_t2 (i := 176) rfl rfl
set_option maxRecDepth 20000 in
theorem k_733 : Cond.constantLong "FiguredBass" 75 (60 : Int64) ∈ WA := wa_t2 (i := 177) rfl rfl
def NW : List Cond := [Cond.fieldLinkNest "FiguredBass" 89 "FiguredBass$Chord" "written" "LFiguredBass$Row;" "FiguredBass", Cond.fieldLinkNest "FiguredBass" 107 "FiguredBass$Row" "size" "I" "FiguredBass", Cond.fieldLinkNest "FiguredBass" 112 "FiguredBass$Chord" "toneCount" "I" "FiguredBass", Cond.fieldLinkNest "FiguredBass" 120 "FiguredBass$Chord" "letters" "[I" "FiguredBass", Cond.fieldLinkNest "FiguredBass" 123 "FiguredBass$Chord" "classes" "[I" "FiguredBass", Cond.fieldLinkNest "FiguredBass" 126 "FiguredBass$Chord" "optionalTone" "I" "FiguredBass", Cond.fieldLinkNest "FiguredBass" 136 "FiguredBass$Chord" "placementCount" "I" "FiguredBass", Cond.fieldLinkNest "FiguredBass" 168 "FiguredBass$Chord" "pupilSounds" "[I" "FiguredBass", Cond.fieldLinkNest "FiguredBass" 174 "FiguredBass$Examination" "found" "I" "FiguredBass", Cond.fieldLinkNest "FiguredBass" 188 "FiguredBass$Chord" "whole" "Z" "FiguredBass", Cond.fieldLinkNest "FiguredBass" 194 "FiguredBass$Realisation" "laidOut" "Z" "FiguredBass", Cond.fieldLinkNest "FiguredBass$Chord" 59 "FiguredBass$Key" "leadingClass" "I" "FiguredBass", Cond.fieldLinkNest "FiguredBass$Chord" 94 "FiguredBass$Row" "size" "I" "FiguredBass", Cond.fieldLinkNest "FiguredBass$Chord" 97 "FiguredBass$Row" "numbers" "[I" "FiguredBass", Cond.fieldLinkNest "FiguredBass$Chord" 100 "FiguredBass$Row" "signs" "[I" "FiguredBass", Cond.fieldLinkNest "FiguredBass$Move" 24 "FiguredBass$Chord" "leadingClass" "I" "FiguredBass", Cond.fieldLinkNest "FiguredBass$Move" 31 "FiguredBass$Chord" "seventhClass" "I" "FiguredBass", Cond.fieldLinkNest "FiguredBass$Realisation" 43 "FiguredBass$Chord" "placementCount" "I" "FiguredBass", Cond.fieldLinkNest "FiguredBass$Examination" 94 "FiguredBass$Chord" "toneCount" "I" "FiguredBass", Cond.fieldLinkNest "FiguredBass$Examination" 97 "FiguredBass$Chord" "optionalTone" "I" "FiguredBass", Cond.fieldLinkNest "FiguredBass$Examination" 100 "FiguredBass$Chord" "classes" "[I" "FiguredBass", Cond.fieldLinkNest "FiguredBass$Key" 31 "FiguredBass" "BASES" "[I" "FiguredBass", Cond.fieldLinkNest "FiguredBass$Chord" 114 "FiguredBass" "BASES" "[I" "FiguredBass", Cond.fieldLinkNest "FiguredBass$Chord" 139 "FiguredBass" "LOWEST" "[I" "FiguredBass", Cond.fieldLinkNest "FiguredBass$Chord" 142 "FiguredBass" "HIGHEST" "[I" "FiguredBass", Cond.fieldLinkNest "FiguredBass$Examination" 55 "FiguredBass" "LOWEST" "[I" "FiguredBass", Cond.fieldLinkNest "FiguredBass$Examination" 58 "FiguredBass" "HIGHEST" "[I" "FiguredBass"]
theorem NW_ok : ∀ w ∈ NW, (∃ a i b n d h, w = .fieldLinkNest a i b n d h) ∨ (∃ a i x h, w = .methodLinkNest a i x h) := by
  intro w hw
  simp only [NW, List.mem_cons, List.not_mem_nil, or_false] at hw
  rcases hw with rfl | rfl | rfl | rfl | rfl | rfl | rfl | rfl | rfl | rfl | rfl | rfl | rfl | rfl | rfl | rfl | rfl | rfl | rfl | rfl | rfl | rfl | rfl | rfl | rfl | rfl | rfl <;> exact Or.inl ⟨_, _, _, _, _, _, rfl⟩
set_option maxRecDepth 20000 in
theorem NW_tab : ∀ w ∈ NW, w ∈ tables_1 := by
  intro w hw
  simp only [NW, List.mem_cons, List.not_mem_nil, or_false] at hw
  rcases hw with rfl | rfl | rfl | rfl | rfl | rfl | rfl | rfl | rfl | rfl | rfl | rfl | rfl | rfl | rfl | rfl | rfl | rfl | rfl | rfl | rfl | rfl | rfl | rfl | rfl | rfl | rfl
  · exact tb_1 (List.mem_of_getElem? (i := 149) rfl)
  · exact tb_1 (List.mem_of_getElem? (i := 140) rfl)
  · exact tb_1 (List.mem_of_getElem? (i := 165) rfl)
  · exact tb_1 (List.mem_of_getElem? (i := 152) rfl)
  · exact tb_1 (List.mem_of_getElem? (i := 155) rfl)
  · exact tb_1 (List.mem_of_getElem? (i := 168) rfl)
  · exact tb_1 (List.mem_of_getElem? (i := 177) rfl)
  · exact tb_1 (List.mem_of_getElem? (i := 159) rfl)
  · exact tb_1 (List.mem_of_getElem? (i := 111) rfl)
  · exact tb_1 (List.mem_of_getElem? (i := 175) rfl)
  · exact tb_1 (List.mem_of_getElem? (i := 81) rfl)
  · exact tb_1 (List.mem_of_getElem? (i := 32) rfl)
  · exact tb_1 (List.mem_of_getElem? (i := 139) rfl)
  · exact tb_1 (List.mem_of_getElem? (i := 135) rfl)
  · exact tb_1 (List.mem_of_getElem? (i := 137) rfl)
  · exact tb_1 (List.mem_of_getElem? (i := 169) rfl)
  · exact tb_1 (List.mem_of_getElem? (i := 172) rfl)
  · exact tb_1 (List.mem_of_getElem? (i := 176) rfl)
  · exact tb_1 (List.mem_of_getElem? (i := 164) rfl)
  · exact tb_1 (List.mem_of_getElem? (i := 167) rfl)
  · exact tb_1 (List.mem_of_getElem? (i := 154) rfl)
  · exact tb_2 (List.mem_of_getElem? (i := 80) rfl)
  · exact tb_2 (List.mem_of_getElem? (i := 126) rfl)
  · exact tb_3 (List.mem_of_getElem? (i := 23) rfl)
  · exact tb_3 (List.mem_of_getElem? (i := 25) rfl)
  · exact tb_3 (List.mem_of_getElem? (i := 208) rfl)
  · exact tb_3 (List.mem_of_getElem? (i := 209) rfl)
def flT : List (Nat × Nat × Nat × Nat) := [(0, 10, (0, 0)), (0, 18, (0, 1)), (0, 25, (0, 2)), (0, 32, (0, 3)), (0, 36, (0, 4)), (0, 89, (3, 0)), (0, 107, (2, 2)), (0, 112, (3, 10)), (0, 120, (3, 2)), (0, 123, (3, 3)), (0, 126, (3, 11)), (0, 136, (3, 16)), (0, 168, (3, 6)), (0, 174, (6, 4)), (0, 188, (3, 15)), (0, 194, (5, 6)), (1, 9, (1, 0)), (1, 15, (1, 1)), (2, 9, (2, 0)), (2, 15, (2, 1)), (2, 18, (2, 2)), (3, 12, (3, 0)), (3, 18, (3, 1)), (3, 21, (3, 2)), (3, 25, (3, 3)), (3, 28, (3, 4)), (3, 31, (3, 5)), (3, 34, (3, 6)), (3, 37, (3, 9)), (3, 41, (3, 11)), (3, 44, (3, 13)), (3, 47, (3, 14)), (3, 50, (3, 7)), (3, 53, (3, 8)), (3, 59, (1, 1)), (3, 64, (3, 12)), (3, 65, (3, 17)), (3, 84, (3, 15)), (3, 87, (3, 10)), (3, 94, (2, 2)), (3, 97, (2, 0)), (3, 100, (2, 1)), (3, 133, (3, 16)), (4, 9, (4, 0)), (4, 15, (4, 1)), (4, 18, (4, 2)), (4, 21, (4, 3)), (4, 24, (3, 12)), (4, 30, (4, 4)), (4, 31, (3, 13)), (4, 34, (4, 5)), (5, 12, (5, 0)), (5, 22, (5, 1)), (5, 25, (5, 2)), (5, 28, (5, 3)), (5, 32, (5, 4)), (5, 35, (5, 5)), (5, 39, (5, 6)), (5, 43, (3, 16)), (6, 12, (6, 0)), (6, 18, (6, 1)), (6, 22, (6, 2)), (6, 25, (6, 3)), (6, 28, (6, 4)), (6, 94, (3, 10)), (6, 97, (3, 11)), (6, 100, (3, 3)), (7, 7, (7, 1)), (7, 13, (7, 2)), (7, 16, (7, 3)), (7, 19, (7, 4)), (7, 22, (7, 7)), (7, 26, (7, 8)), (7, 29, (7, 9)), (7, 32, (7, 10)), (7, 35, (7, 11)), (7, 38, (7, 12)), (7, 41, (7, 13)), (7, 44, (7, 15)), (7, 47, (7, 16)), (7, 50, (7, 18)), (7, 53, (7, 19)), (7, 56, (7, 23)), (7, 59, (7, 24)), (7, 62, (7, 25)), (7, 65, (7, 26)), (7, 68, (7, 27)), (7, 71, (7, 28)), (7, 74, (7, 29)), (7, 77, (7, 30)), (7, 80, (7, 31)), (7, 84, (7, 33)), (7, 87, (7, 34)), (7, 90, (7, 35)), (7, 93, (7, 37)), (7, 96, (7, 38)), (7, 99, (7, 39)), (7, 102, (7, 40)), (7, 105, (7, 41)), (7, 108, (7, 0)), (7, 111, (7, 5)), (7, 118, (7, 6)), (7, 129, (7, 32)), (7, 139, (7, 14)), (7, 153, (7, 17)), (7, 163, (7, 20)), (7, 169, (7, 21)), (7, 172, (7, 22)), (7, 253, (7, 36))]
def fl (o i : Nat) : Option (Nat × Nat) := (flT.find? fun q => q.1 == o && q.2.1 == i).map fun q => q.2.2
theorem fl_mem {o i : Nat} {w : Nat × Nat} (h : fl o i = some w) : (o, i, w) ∈ flT := by
  unfold fl at h
  cases hf : flT.find? (fun q => q.1 == o && q.2.1 == i) with
  | none => rw [hf] at h; cases h
  | some q =>
    rw [hf] at h
    obtain ⟨a, b, v⟩ := q
    have h1 := List.find?_some hf
    have h2 := List.mem_of_find?_eq_some hf
    simp only [Bool.and_eq_true, beq_iff_eq] at h1
    cases h
    rw [← h1.1, ← h1.2]
    exact h2
set_option maxRecDepth 20000 in
theorem fl_all : ∀ q ∈ flT, q.2.2.1 < nC ∧ q.2.2.2 < cn q.2.2.1 ∧ (cF q.2.2.1 q.2.2.2).1 = cN q.2.2.1 ∧ (Cond.fieldLink (cN q.1) q.2.1 (cN q.2.2.1) (cF q.2.2.1 q.2.2.2).2.1 (cF q.2.2.1 q.2.2.2).2.2.1 ∈ WA ∨ Cond.fieldLinkNest (cN q.1) q.2.1 (cN q.2.2.1) (cF q.2.2.1 q.2.2.2).2.1 (cF q.2.2.1 q.2.2.2).2.2.1 "FiguredBass" ∈ NW) := List.forall_mem_cons.mpr ⟨⟨by decide, by decide, rfl, Or.inl k_0⟩, List.forall_mem_cons.mpr ⟨⟨by decide, by decide, rfl, Or.inl k_1⟩, List.forall_mem_cons.mpr ⟨⟨by decide, by decide, rfl, Or.inl k_2⟩, List.forall_mem_cons.mpr ⟨⟨by decide, by decide, rfl, Or.inl k_3⟩, List.forall_mem_cons.mpr ⟨⟨by decide, by decide, rfl, Or.inl k_4⟩, List.forall_mem_cons.mpr ⟨⟨by decide, by decide, rfl, Or.inr (List.mem_of_getElem? (i := 0) rfl)⟩, List.forall_mem_cons.mpr ⟨⟨by decide, by decide, rfl, Or.inr (List.mem_of_getElem? (i := 1) rfl)⟩, List.forall_mem_cons.mpr ⟨⟨by decide, by decide, rfl, Or.inr (List.mem_of_getElem? (i := 2) rfl)⟩, List.forall_mem_cons.mpr ⟨⟨by decide, by decide, rfl, Or.inr (List.mem_of_getElem? (i := 3) rfl)⟩, List.forall_mem_cons.mpr ⟨⟨by decide, by decide, rfl, Or.inr (List.mem_of_getElem? (i := 4) rfl)⟩, List.forall_mem_cons.mpr ⟨⟨by decide, by decide, rfl, Or.inr (List.mem_of_getElem? (i := 5) rfl)⟩, List.forall_mem_cons.mpr ⟨⟨by decide, by decide, rfl, Or.inr (List.mem_of_getElem? (i := 6) rfl)⟩, List.forall_mem_cons.mpr ⟨⟨by decide, by decide, rfl, Or.inr (List.mem_of_getElem? (i := 7) rfl)⟩, List.forall_mem_cons.mpr ⟨⟨by decide, by decide, rfl, Or.inr (List.mem_of_getElem? (i := 8) rfl)⟩, List.forall_mem_cons.mpr ⟨⟨by decide, by decide, rfl, Or.inr (List.mem_of_getElem? (i := 9) rfl)⟩, List.forall_mem_cons.mpr ⟨⟨by decide, by decide, rfl, Or.inr (List.mem_of_getElem? (i := 10) rfl)⟩, List.forall_mem_cons.mpr ⟨⟨by decide, by decide, rfl, Or.inl k_5⟩, List.forall_mem_cons.mpr ⟨⟨by decide, by decide, rfl, Or.inl k_6⟩, List.forall_mem_cons.mpr ⟨⟨by decide, by decide, rfl, Or.inl k_7⟩, List.forall_mem_cons.mpr ⟨⟨by decide, by decide, rfl, Or.inl k_8⟩, List.forall_mem_cons.mpr ⟨⟨by decide, by decide, rfl, Or.inl k_9⟩, List.forall_mem_cons.mpr ⟨⟨by decide, by decide, rfl, Or.inl k_10⟩, List.forall_mem_cons.mpr ⟨⟨by decide, by decide, rfl, Or.inl k_11⟩, List.forall_mem_cons.mpr ⟨⟨by decide, by decide, rfl, Or.inl k_12⟩, List.forall_mem_cons.mpr ⟨⟨by decide, by decide, rfl, Or.inl k_13⟩, List.forall_mem_cons.mpr ⟨⟨by decide, by decide, rfl, Or.inl k_14⟩, List.forall_mem_cons.mpr ⟨⟨by decide, by decide, rfl, Or.inl k_15⟩, List.forall_mem_cons.mpr ⟨⟨by decide, by decide, rfl, Or.inl k_16⟩, List.forall_mem_cons.mpr ⟨⟨by decide, by decide, rfl, Or.inl k_17⟩, List.forall_mem_cons.mpr ⟨⟨by decide, by decide, rfl, Or.inl k_18⟩, List.forall_mem_cons.mpr ⟨⟨by decide, by decide, rfl, Or.inl k_19⟩, List.forall_mem_cons.mpr ⟨⟨by decide, by decide, rfl, Or.inl k_20⟩, List.forall_mem_cons.mpr ⟨⟨by decide, by decide, rfl, Or.inl k_21⟩, List.forall_mem_cons.mpr ⟨⟨by decide, by decide, rfl, Or.inl k_22⟩, List.forall_mem_cons.mpr ⟨⟨by decide, by decide, rfl, Or.inr (List.mem_of_getElem? (i := 11) rfl)⟩, List.forall_mem_cons.mpr ⟨⟨by decide, by decide, rfl, Or.inl k_23⟩, List.forall_mem_cons.mpr ⟨⟨by decide, by decide, rfl, Or.inl k_24⟩, List.forall_mem_cons.mpr ⟨⟨by decide, by decide, rfl, Or.inl k_25⟩, List.forall_mem_cons.mpr ⟨⟨by decide, by decide, rfl, Or.inl k_26⟩, List.forall_mem_cons.mpr ⟨⟨by decide, by decide, rfl, Or.inr (List.mem_of_getElem? (i := 12) rfl)⟩, List.forall_mem_cons.mpr ⟨⟨by decide, by decide, rfl, Or.inr (List.mem_of_getElem? (i := 13) rfl)⟩, List.forall_mem_cons.mpr ⟨⟨by decide, by decide, rfl, Or.inr (List.mem_of_getElem? (i := 14) rfl)⟩, List.forall_mem_cons.mpr ⟨⟨by decide, by decide, rfl, Or.inl k_27⟩, List.forall_mem_cons.mpr ⟨⟨by decide, by decide, rfl, Or.inl k_28⟩, List.forall_mem_cons.mpr ⟨⟨by decide, by decide, rfl, Or.inl k_29⟩, List.forall_mem_cons.mpr ⟨⟨by decide, by decide, rfl, Or.inl k_30⟩, List.forall_mem_cons.mpr ⟨⟨by decide, by decide, rfl, Or.inl k_31⟩, List.forall_mem_cons.mpr ⟨⟨by decide, by decide, rfl, Or.inr (List.mem_of_getElem? (i := 15) rfl)⟩, List.forall_mem_cons.mpr ⟨⟨by decide, by decide, rfl, Or.inl k_32⟩, List.forall_mem_cons.mpr ⟨⟨by decide, by decide, rfl, Or.inr (List.mem_of_getElem? (i := 16) rfl)⟩, List.forall_mem_cons.mpr ⟨⟨by decide, by decide, rfl, Or.inl k_33⟩, List.forall_mem_cons.mpr ⟨⟨by decide, by decide, rfl, Or.inl k_34⟩, List.forall_mem_cons.mpr ⟨⟨by decide, by decide, rfl, Or.inl k_35⟩, List.forall_mem_cons.mpr ⟨⟨by decide, by decide, rfl, Or.inl k_36⟩, List.forall_mem_cons.mpr ⟨⟨by decide, by decide, rfl, Or.inl k_37⟩, List.forall_mem_cons.mpr ⟨⟨by decide, by decide, rfl, Or.inl k_38⟩, List.forall_mem_cons.mpr ⟨⟨by decide, by decide, rfl, Or.inl k_39⟩, List.forall_mem_cons.mpr ⟨⟨by decide, by decide, rfl, Or.inl k_40⟩, List.forall_mem_cons.mpr ⟨⟨by decide, by decide, rfl, Or.inr (List.mem_of_getElem? (i := 17) rfl)⟩, List.forall_mem_cons.mpr ⟨⟨by decide, by decide, rfl, Or.inl k_41⟩, List.forall_mem_cons.mpr ⟨⟨by decide, by decide, rfl, Or.inl k_42⟩, List.forall_mem_cons.mpr ⟨⟨by decide, by decide, rfl, Or.inl k_43⟩, List.forall_mem_cons.mpr ⟨⟨by decide, by decide, rfl, Or.inl k_44⟩, List.forall_mem_cons.mpr ⟨⟨by decide, by decide, rfl, Or.inl k_45⟩, List.forall_mem_cons.mpr ⟨⟨by decide, by decide, rfl, Or.inr (List.mem_of_getElem? (i := 18) rfl)⟩, List.forall_mem_cons.mpr ⟨⟨by decide, by decide, rfl, Or.inr (List.mem_of_getElem? (i := 19) rfl)⟩, List.forall_mem_cons.mpr ⟨⟨by decide, by decide, rfl, Or.inr (List.mem_of_getElem? (i := 20) rfl)⟩, List.forall_mem_cons.mpr ⟨⟨by decide, by decide, rfl, Or.inl k_46⟩, List.forall_mem_cons.mpr ⟨⟨by decide, by decide, rfl, Or.inl k_47⟩, List.forall_mem_cons.mpr ⟨⟨by decide, by decide, rfl, Or.inl k_48⟩, List.forall_mem_cons.mpr ⟨⟨by decide, by decide, rfl, Or.inl k_49⟩, List.forall_mem_cons.mpr ⟨⟨by decide, by decide, rfl, Or.inl k_50⟩, List.forall_mem_cons.mpr ⟨⟨by decide, by decide, rfl, Or.inl k_51⟩, List.forall_mem_cons.mpr ⟨⟨by decide, by decide, rfl, Or.inl k_52⟩, List.forall_mem_cons.mpr ⟨⟨by decide, by decide, rfl, Or.inl k_53⟩, List.forall_mem_cons.mpr ⟨⟨by decide, by decide, rfl, Or.inl k_54⟩, List.forall_mem_cons.mpr ⟨⟨by decide, by decide, rfl, Or.inl k_55⟩, List.forall_mem_cons.mpr ⟨⟨by decide, by decide, rfl, Or.inl k_56⟩, List.forall_mem_cons.mpr ⟨⟨by decide, by decide, rfl, Or.inl k_57⟩, List.forall_mem_cons.mpr ⟨⟨by decide, by decide, rfl, Or.inl k_58⟩, List.forall_mem_cons.mpr ⟨⟨by decide, by decide, rfl, Or.inl k_59⟩, List.forall_mem_cons.mpr ⟨⟨by decide, by decide, rfl, Or.inl k_60⟩, List.forall_mem_cons.mpr ⟨⟨by decide, by decide, rfl, Or.inl k_61⟩, List.forall_mem_cons.mpr ⟨⟨by decide, by decide, rfl, Or.inl k_62⟩, List.forall_mem_cons.mpr ⟨⟨by decide, by decide, rfl, Or.inl k_63⟩, List.forall_mem_cons.mpr ⟨⟨by decide, by decide, rfl, Or.inl k_64⟩, List.forall_mem_cons.mpr ⟨⟨by decide, by decide, rfl, Or.inl k_65⟩, List.forall_mem_cons.mpr ⟨⟨by decide, by decide, rfl, Or.inl k_66⟩, List.forall_mem_cons.mpr ⟨⟨by decide, by decide, rfl, Or.inl k_67⟩, List.forall_mem_cons.mpr ⟨⟨by decide, by decide, rfl, Or.inl k_68⟩, List.forall_mem_cons.mpr ⟨⟨by decide, by decide, rfl, Or.inl k_69⟩, List.forall_mem_cons.mpr ⟨⟨by decide, by decide, rfl, Or.inl k_70⟩, List.forall_mem_cons.mpr ⟨⟨by decide, by decide, rfl, Or.inl k_71⟩, List.forall_mem_cons.mpr ⟨⟨by decide, by decide, rfl, Or.inl k_72⟩, List.forall_mem_cons.mpr ⟨⟨by decide, by decide, rfl, Or.inl k_73⟩, List.forall_mem_cons.mpr ⟨⟨by decide, by decide, rfl, Or.inl k_74⟩, List.forall_mem_cons.mpr ⟨⟨by decide, by decide, rfl, Or.inl k_75⟩, List.forall_mem_cons.mpr ⟨⟨by decide, by decide, rfl, Or.inl k_76⟩, List.forall_mem_cons.mpr ⟨⟨by decide, by decide, rfl, Or.inl k_77⟩, List.forall_mem_cons.mpr ⟨⟨by decide, by decide, rfl, Or.inl k_78⟩, List.forall_mem_cons.mpr ⟨⟨by decide, by decide, rfl, Or.inl k_79⟩, List.forall_mem_cons.mpr ⟨⟨by decide, by decide, rfl, Or.inl k_80⟩, List.forall_mem_cons.mpr ⟨⟨by decide, by decide, rfl, Or.inl k_81⟩, List.forall_mem_cons.mpr ⟨⟨by decide, by decide, rfl, Or.inl k_82⟩, List.forall_mem_cons.mpr ⟨⟨by decide, by decide, rfl, Or.inl k_83⟩, List.forall_mem_cons.mpr ⟨⟨by decide, by decide, rfl, Or.inl k_84⟩, List.forall_mem_cons.mpr ⟨⟨by decide, by decide, rfl, Or.inl k_85⟩, List.forall_mem_cons.mpr ⟨⟨by decide, by decide, rfl, Or.inl k_86⟩, List.forall_mem_cons.mpr ⟨⟨by decide, by decide, rfl, Or.inl k_87⟩, fun _ h => absurd h List.not_mem_nil⟩⟩⟩⟩⟩⟩⟩⟩⟩⟩⟩⟩⟩⟩⟩⟩⟩⟩⟩⟩⟩⟩⟩⟩⟩⟩⟩⟩⟩⟩⟩⟩⟩⟩⟩⟩⟩⟩⟩⟩⟩⟩⟩⟩⟩⟩⟩⟩⟩⟩⟩⟩⟩⟩⟩⟩⟩⟩⟩⟩⟩⟩⟩⟩⟩⟩⟩⟩⟩⟩⟩⟩⟩⟩⟩⟩⟩⟩⟩⟩⟩⟩⟩⟩⟩⟩⟩⟩⟩⟩⟩⟩⟩⟩⟩⟩⟩⟩⟩⟩⟩⟩⟩⟩⟩⟩⟩⟩⟩
theorem fl_ok {o i : Nat} {w : Nat × Nat} (h : fl o i = some w) : w.1 < nC ∧ w.2 < cn w.1 ∧ (cF w.1 w.2).1 = cN w.1 ∧ (Cond.fieldLink (cN o) i (cN w.1) (cF w.1 w.2).2.1 (cF w.1 w.2).2.2.1 ∈ WA ∨ Cond.fieldLinkNest (cN o) i (cN w.1) (cF w.1 w.2).2.1 (cF w.1 w.2).2.2.1 "FiguredBass" ∈ NW) := fl_all _ (fl_mem h)
def slT : List (Nat × Nat × Nat) := [(0, 69, 0), (1, 19, 3), (1, 22, 4), (1, 31, 0), (2, 40, 5), (2, 43, 6), (3, 114, 0), (3, 139, 1), (3, 142, 2), (6, 55, 1), (6, 58, 2)]
def sl (o i : Nat) : Option (Nat) := (slT.find? fun q => q.1 == o && q.2.1 == i).map fun q => q.2.2
theorem sl_mem {o i : Nat} {w : Nat} (h : sl o i = some w) : (o, i, w) ∈ slT := by
  unfold sl at h
  cases hf : slT.find? (fun q => q.1 == o && q.2.1 == i) with
  | none => rw [hf] at h; cases h
  | some q =>
    rw [hf] at h
    obtain ⟨a, b, v⟩ := q
    have h1 := List.find?_some hf
    have h2 := List.mem_of_find?_eq_some hf
    simp only [Bool.and_eq_true, beq_iff_eq] at h1
    cases h
    rw [← h1.1, ← h1.2]
    exact h2
set_option maxRecDepth 20000 in
theorem sl_all : ∀ q ∈ slT, q.2.2 < nS ∧ (Cond.fieldLink (cN q.1) q.2.1 (cN (sC q.2.2)) (sN q.2.2) "[I" ∈ WA ∨ Cond.fieldLinkNest (cN q.1) q.2.1 (cN (sC q.2.2)) (sN q.2.2) "[I" "FiguredBass" ∈ NW) := List.forall_mem_cons.mpr ⟨⟨by decide, Or.inl k_88⟩, List.forall_mem_cons.mpr ⟨⟨by decide, Or.inl k_89⟩, List.forall_mem_cons.mpr ⟨⟨by decide, Or.inl k_90⟩, List.forall_mem_cons.mpr ⟨⟨by decide, Or.inr (List.mem_of_getElem? (i := 21) rfl)⟩, List.forall_mem_cons.mpr ⟨⟨by decide, Or.inl k_91⟩, List.forall_mem_cons.mpr ⟨⟨by decide, Or.inl k_92⟩, List.forall_mem_cons.mpr ⟨⟨by decide, Or.inr (List.mem_of_getElem? (i := 22) rfl)⟩, List.forall_mem_cons.mpr ⟨⟨by decide, Or.inr (List.mem_of_getElem? (i := 23) rfl)⟩, List.forall_mem_cons.mpr ⟨⟨by decide, Or.inr (List.mem_of_getElem? (i := 24) rfl)⟩, List.forall_mem_cons.mpr ⟨⟨by decide, Or.inr (List.mem_of_getElem? (i := 25) rfl)⟩, List.forall_mem_cons.mpr ⟨⟨by decide, Or.inr (List.mem_of_getElem? (i := 26) rfl)⟩, fun _ h => absurd h List.not_mem_nil⟩⟩⟩⟩⟩⟩⟩⟩⟩⟩⟩
theorem sl_ok {o i j : Nat} (h : sl o i = some j) : j < nS ∧ (Cond.fieldLink (cN o) i (cN (sC j)) (sN j) "[I" ∈ WA ∨ Cond.fieldLinkNest (cN o) i (cN (sC j)) (sN j) "[I" "FiguredBass" ∈ NW) := sl_all _ (sl_mem h)
def mlT : List (Nat × Nat × Nat) := [(0, 48, 18), (0, 52, 31), (0, 56, 55), (0, 61, 13), (0, 79, 30), (0, 85, 29), (0, 93, 21), (0, 104, 22), (0, 129, 15), (0, 133, 38), (0, 139, 14), (0, 144, 43), (0, 148, 16), (0, 151, 56), (0, 154, 60), (0, 157, 17), (0, 160, 64), (0, 163, 65), (0, 171, 66), (0, 181, 67), (1, 25, 128), (2, 22, 23), (2, 26, 20), (2, 29, 28), (2, 33, 22), (2, 37, 27), (3, 56, 20), (3, 69, 29), (3, 73, 25), (3, 77, 32), (3, 81, 34), (3, 90, 33), (3, 103, 19), (3, 107, 26), (3, 110, 23), (3, 117, 128), (3, 122, 35), (3, 126, 24), (3, 130, 36), (3, 136, 41), (3, 145, 1000), (3, 148, 1001), (3, 151, 37), (3, 154, 39), (3, 158, 42), (3, 161, 40), (3, 164, 43), (3, 167, 46), (4, 35, 43), (4, 39, 36), (4, 43, 1002), (4, 48, 52), (4, 52, 53), (4, 55, 54), (4, 58, 51), (4, 62, 128), (5, 47, 57), (5, 51, 58), (5, 55, 59), (5, 59, 45), (5, 62, 47), (5, 66, 48), (5, 69, 49), (5, 73, 50), (5, 77, 61), (5, 80, 62), (5, 84, 63), (5, 88, 43), (6, 32, 68), (6, 38, 47), (6, 41, 48), (6, 44, 69), (6, 48, 70), (6, 51, 43), (6, 61, 73), (6, 65, 44), (6, 69, 72), (6, 72, 1002), (6, 77, 37), (6, 81, 51), (6, 85, 52), (6, 88, 53), (6, 91, 54), (6, 103, 71), (7, 114, 75), (7, 122, 76), (7, 126, 77), (7, 132, 81), (7, 136, 84), (7, 142, 85), (7, 146, 87), (7, 149, 86), (7, 156, 88), (7, 160, 89), (7, 166, 90), (7, 175, 91), (7, 178, 94), (7, 181, 95), (7, 185, 92), (7, 188, 96), (7, 191, 100), (7, 194, 78), (7, 198, 102), (7, 201, 103), (7, 205, 104), (7, 208, 101), (7, 211, 109), (7, 214, 105), (7, 217, 110), (7, 221, 106), (7, 224, 108), (7, 227, 107), (7, 230, 112), (7, 233, 99), (7, 237, 111), (7, 240, 113), (7, 243, 114), (7, 247, 115), (7, 250, 117), (7, 256, 121), (7, 260, 122), (7, 263, 123), (7, 266, 124), (7, 269, 125), (8, 7, 0), (8, 15, 1), (8, 19, 2), (8, 23, 3), (8, 29, 4), (8, 35, 5), (8, 39, 6), (8, 42, 7), (8, 46, 8), (8, 49, 9), (8, 52, 10), (8, 56, 11), (8, 59, 12), (8, 71, 79), (8, 72, 74), (8, 78, 80), (8, 82, 82), (8, 86, 83), (8, 90, 93), (8, 94, 97), (8, 97, 98), (8, 101, 116), (8, 104, 118), (8, 107, 119), (8, 111, 120), (8, 114, 126), (8, 117, 127)]
def ml (o i : Nat) : Option (Nat) := (mlT.find? fun q => q.1 == o && q.2.1 == i).map fun q => q.2.2
theorem ml_mem {o i : Nat} {w : Nat} (h : ml o i = some w) : (o, i, w) ∈ mlT := by
  unfold ml at h
  cases hf : mlT.find? (fun q => q.1 == o && q.2.1 == i) with
  | none => rw [hf] at h; cases h
  | some q =>
    rw [hf] at h
    obtain ⟨a, b, v⟩ := q
    have h1 := List.find?_some hf
    have h2 := List.mem_of_find?_eq_some hf
    simp only [Bool.and_eq_true, beq_iff_eq] at h1
    cases h
    rw [← h1.1, ← h1.2]
    exact h2
def mlP (q : Nat × Nat × Nat) : Prop := (q.2.2 < nM ∧ Cond.methodLink (cN q.1) q.2.1 (mY q.2.2) ∈ WA) ∨ (q.2.2 = 1000 ∧ Cond.methodLink (cN q.1) q.2.1 Lib.Math.max.name ∈ WA) ∨ (q.2.2 = 1001 ∧ Cond.methodLink (cN q.1) q.2.1 Lib.Math.min.name ∈ WA) ∨ (q.2.2 = 1002 ∧ Cond.methodLink (cN q.1) q.2.1 Lib.Math.abs.name ∈ WA)
set_option maxRecDepth 20000 in
theorem ml_all : ∀ q ∈ mlT, mlP q := List.forall_mem_cons.mpr ⟨Or.inl ⟨by decide, k_93⟩, List.forall_mem_cons.mpr ⟨Or.inl ⟨by decide, k_94⟩, List.forall_mem_cons.mpr ⟨Or.inl ⟨by decide, k_95⟩, List.forall_mem_cons.mpr ⟨Or.inl ⟨by decide, k_96⟩, List.forall_mem_cons.mpr ⟨Or.inl ⟨by decide, k_97⟩, List.forall_mem_cons.mpr ⟨Or.inl ⟨by decide, k_98⟩, List.forall_mem_cons.mpr ⟨Or.inl ⟨by decide, k_99⟩, List.forall_mem_cons.mpr ⟨Or.inl ⟨by decide, k_100⟩, List.forall_mem_cons.mpr ⟨Or.inl ⟨by decide, k_101⟩, List.forall_mem_cons.mpr ⟨Or.inl ⟨by decide, k_102⟩, List.forall_mem_cons.mpr ⟨Or.inl ⟨by decide, k_103⟩, List.forall_mem_cons.mpr ⟨Or.inl ⟨by decide, k_104⟩, List.forall_mem_cons.mpr ⟨Or.inl ⟨by decide, k_105⟩, List.forall_mem_cons.mpr ⟨Or.inl ⟨by decide, k_106⟩, List.forall_mem_cons.mpr ⟨Or.inl ⟨by decide, k_107⟩, List.forall_mem_cons.mpr ⟨Or.inl ⟨by decide, k_108⟩, List.forall_mem_cons.mpr ⟨Or.inl ⟨by decide, k_109⟩, List.forall_mem_cons.mpr ⟨Or.inl ⟨by decide, k_110⟩, List.forall_mem_cons.mpr ⟨Or.inl ⟨by decide, k_111⟩, List.forall_mem_cons.mpr ⟨Or.inl ⟨by decide, k_112⟩, List.forall_mem_cons.mpr ⟨Or.inl ⟨by decide, k_113⟩, List.forall_mem_cons.mpr ⟨Or.inl ⟨by decide, k_114⟩, List.forall_mem_cons.mpr ⟨Or.inl ⟨by decide, k_115⟩, List.forall_mem_cons.mpr ⟨Or.inl ⟨by decide, k_116⟩, List.forall_mem_cons.mpr ⟨Or.inl ⟨by decide, k_117⟩, List.forall_mem_cons.mpr ⟨Or.inl ⟨by decide, k_118⟩, List.forall_mem_cons.mpr ⟨Or.inl ⟨by decide, k_119⟩, List.forall_mem_cons.mpr ⟨Or.inl ⟨by decide, k_120⟩, List.forall_mem_cons.mpr ⟨Or.inl ⟨by decide, k_121⟩, List.forall_mem_cons.mpr ⟨Or.inl ⟨by decide, k_122⟩, List.forall_mem_cons.mpr ⟨Or.inl ⟨by decide, k_123⟩, List.forall_mem_cons.mpr ⟨Or.inl ⟨by decide, k_124⟩, List.forall_mem_cons.mpr ⟨Or.inl ⟨by decide, k_125⟩, List.forall_mem_cons.mpr ⟨Or.inl ⟨by decide, k_126⟩, List.forall_mem_cons.mpr ⟨Or.inl ⟨by decide, k_127⟩, List.forall_mem_cons.mpr ⟨Or.inl ⟨by decide, k_128⟩, List.forall_mem_cons.mpr ⟨Or.inl ⟨by decide, k_129⟩, List.forall_mem_cons.mpr ⟨Or.inl ⟨by decide, k_130⟩, List.forall_mem_cons.mpr ⟨Or.inl ⟨by decide, k_131⟩, List.forall_mem_cons.mpr ⟨Or.inl ⟨by decide, k_132⟩, List.forall_mem_cons.mpr ⟨Or.inr (Or.inl ⟨rfl, k_133⟩), List.forall_mem_cons.mpr ⟨Or.inr (Or.inr (Or.inl ⟨rfl, k_134⟩)), List.forall_mem_cons.mpr ⟨Or.inl ⟨by decide, k_135⟩, List.forall_mem_cons.mpr ⟨Or.inl ⟨by decide, k_136⟩, List.forall_mem_cons.mpr ⟨Or.inl ⟨by decide, k_137⟩, List.forall_mem_cons.mpr ⟨Or.inl ⟨by decide, k_138⟩, List.forall_mem_cons.mpr ⟨Or.inl ⟨by decide, k_139⟩, List.forall_mem_cons.mpr ⟨Or.inl ⟨by decide, k_140⟩, List.forall_mem_cons.mpr ⟨Or.inl ⟨by decide, k_141⟩, List.forall_mem_cons.mpr ⟨Or.inl ⟨by decide, k_142⟩, List.forall_mem_cons.mpr ⟨Or.inr (Or.inr (Or.inr ⟨rfl, k_143⟩)), List.forall_mem_cons.mpr ⟨Or.inl ⟨by decide, k_144⟩, List.forall_mem_cons.mpr ⟨Or.inl ⟨by decide, k_145⟩, List.forall_mem_cons.mpr ⟨Or.inl ⟨by decide, k_146⟩, List.forall_mem_cons.mpr ⟨Or.inl ⟨by decide, k_147⟩, List.forall_mem_cons.mpr ⟨Or.inl ⟨by decide, k_148⟩, List.forall_mem_cons.mpr ⟨Or.inl ⟨by decide, k_149⟩, List.forall_mem_cons.mpr ⟨Or.inl ⟨by decide, k_150⟩, List.forall_mem_cons.mpr ⟨Or.inl ⟨by decide, k_151⟩, List.forall_mem_cons.mpr ⟨Or.inl ⟨by decide, k_152⟩, List.forall_mem_cons.mpr ⟨Or.inl ⟨by decide, k_153⟩, List.forall_mem_cons.mpr ⟨Or.inl ⟨by decide, k_154⟩, List.forall_mem_cons.mpr ⟨Or.inl ⟨by decide, k_155⟩, List.forall_mem_cons.mpr ⟨Or.inl ⟨by decide, k_156⟩, List.forall_mem_cons.mpr ⟨Or.inl ⟨by decide, k_157⟩, List.forall_mem_cons.mpr ⟨Or.inl ⟨by decide, k_158⟩, List.forall_mem_cons.mpr ⟨Or.inl ⟨by decide, k_159⟩, List.forall_mem_cons.mpr ⟨Or.inl ⟨by decide, k_160⟩, List.forall_mem_cons.mpr ⟨Or.inl ⟨by decide, k_161⟩, List.forall_mem_cons.mpr ⟨Or.inl ⟨by decide, k_162⟩, List.forall_mem_cons.mpr ⟨Or.inl ⟨by decide, k_163⟩, List.forall_mem_cons.mpr ⟨Or.inl ⟨by decide, k_164⟩, List.forall_mem_cons.mpr ⟨Or.inl ⟨by decide, k_165⟩, List.forall_mem_cons.mpr ⟨Or.inl ⟨by decide, k_166⟩, List.forall_mem_cons.mpr ⟨Or.inl ⟨by decide, k_167⟩, List.forall_mem_cons.mpr ⟨Or.inl ⟨by decide, k_168⟩, List.forall_mem_cons.mpr ⟨Or.inl ⟨by decide, k_169⟩, List.forall_mem_cons.mpr ⟨Or.inr (Or.inr (Or.inr ⟨rfl, k_170⟩)), List.forall_mem_cons.mpr ⟨Or.inl ⟨by decide, k_171⟩, List.forall_mem_cons.mpr ⟨Or.inl ⟨by decide, k_172⟩, List.forall_mem_cons.mpr ⟨Or.inl ⟨by decide, k_173⟩, List.forall_mem_cons.mpr ⟨Or.inl ⟨by decide, k_174⟩, List.forall_mem_cons.mpr ⟨Or.inl ⟨by decide, k_175⟩, List.forall_mem_cons.mpr ⟨Or.inl ⟨by decide, k_176⟩, List.forall_mem_cons.mpr ⟨Or.inl ⟨by decide, k_177⟩, List.forall_mem_cons.mpr ⟨Or.inl ⟨by decide, k_178⟩, List.forall_mem_cons.mpr ⟨Or.inl ⟨by decide, k_179⟩, List.forall_mem_cons.mpr ⟨Or.inl ⟨by decide, k_180⟩, List.forall_mem_cons.mpr ⟨Or.inl ⟨by decide, k_181⟩, List.forall_mem_cons.mpr ⟨Or.inl ⟨by decide, k_182⟩, List.forall_mem_cons.mpr ⟨Or.inl ⟨by decide, k_183⟩, List.forall_mem_cons.mpr ⟨Or.inl ⟨by decide, k_184⟩, List.forall_mem_cons.mpr ⟨Or.inl ⟨by decide, k_185⟩, List.forall_mem_cons.mpr ⟨Or.inl ⟨by decide, k_186⟩, List.forall_mem_cons.mpr ⟨Or.inl ⟨by decide, k_187⟩, List.forall_mem_cons.mpr ⟨Or.inl ⟨by decide, k_188⟩, List.forall_mem_cons.mpr ⟨Or.inl ⟨by decide, k_189⟩, List.forall_mem_cons.mpr ⟨Or.inl ⟨by decide, k_190⟩, List.forall_mem_cons.mpr ⟨Or.inl ⟨by decide, k_191⟩, List.forall_mem_cons.mpr ⟨Or.inl ⟨by decide, k_192⟩, List.forall_mem_cons.mpr ⟨Or.inl ⟨by decide, k_193⟩, List.forall_mem_cons.mpr ⟨Or.inl ⟨by decide, k_194⟩, List.forall_mem_cons.mpr ⟨Or.inl ⟨by decide, k_195⟩, List.forall_mem_cons.mpr ⟨Or.inl ⟨by decide, k_196⟩, List.forall_mem_cons.mpr ⟨Or.inl ⟨by decide, k_197⟩, List.forall_mem_cons.mpr ⟨Or.inl ⟨by decide, k_198⟩, List.forall_mem_cons.mpr ⟨Or.inl ⟨by decide, k_199⟩, List.forall_mem_cons.mpr ⟨Or.inl ⟨by decide, k_200⟩, List.forall_mem_cons.mpr ⟨Or.inl ⟨by decide, k_201⟩, List.forall_mem_cons.mpr ⟨Or.inl ⟨by decide, k_202⟩, List.forall_mem_cons.mpr ⟨Or.inl ⟨by decide, k_203⟩, List.forall_mem_cons.mpr ⟨Or.inl ⟨by decide, k_204⟩, List.forall_mem_cons.mpr ⟨Or.inl ⟨by decide, k_205⟩, List.forall_mem_cons.mpr ⟨Or.inl ⟨by decide, k_206⟩, List.forall_mem_cons.mpr ⟨Or.inl ⟨by decide, k_207⟩, List.forall_mem_cons.mpr ⟨Or.inl ⟨by decide, k_208⟩, List.forall_mem_cons.mpr ⟨Or.inl ⟨by decide, k_209⟩, List.forall_mem_cons.mpr ⟨Or.inl ⟨by decide, k_210⟩, List.forall_mem_cons.mpr ⟨Or.inl ⟨by decide, k_211⟩, List.forall_mem_cons.mpr ⟨Or.inl ⟨by decide, k_212⟩, List.forall_mem_cons.mpr ⟨Or.inl ⟨by decide, k_213⟩, List.forall_mem_cons.mpr ⟨Or.inl ⟨by decide, k_214⟩, List.forall_mem_cons.mpr ⟨Or.inl ⟨by decide, k_215⟩, List.forall_mem_cons.mpr ⟨Or.inl ⟨by decide, k_216⟩, List.forall_mem_cons.mpr ⟨Or.inl ⟨by decide, k_217⟩, List.forall_mem_cons.mpr ⟨Or.inl ⟨by decide, k_218⟩, List.forall_mem_cons.mpr ⟨Or.inl ⟨by decide, k_219⟩, List.forall_mem_cons.mpr ⟨Or.inl ⟨by decide, k_220⟩, List.forall_mem_cons.mpr ⟨Or.inl ⟨by decide, k_221⟩, List.forall_mem_cons.mpr ⟨Or.inl ⟨by decide, k_222⟩, List.forall_mem_cons.mpr ⟨Or.inl ⟨by decide, k_223⟩, List.forall_mem_cons.mpr ⟨Or.inl ⟨by decide, k_224⟩, List.forall_mem_cons.mpr ⟨Or.inl ⟨by decide, k_225⟩, List.forall_mem_cons.mpr ⟨Or.inl ⟨by decide, k_226⟩, List.forall_mem_cons.mpr ⟨Or.inl ⟨by decide, k_227⟩, List.forall_mem_cons.mpr ⟨Or.inl ⟨by decide, k_228⟩, List.forall_mem_cons.mpr ⟨Or.inl ⟨by decide, k_229⟩, List.forall_mem_cons.mpr ⟨Or.inl ⟨by decide, k_230⟩, List.forall_mem_cons.mpr ⟨Or.inl ⟨by decide, k_231⟩, List.forall_mem_cons.mpr ⟨Or.inl ⟨by decide, k_232⟩, List.forall_mem_cons.mpr ⟨Or.inl ⟨by decide, k_233⟩, List.forall_mem_cons.mpr ⟨Or.inl ⟨by decide, k_234⟩, List.forall_mem_cons.mpr ⟨Or.inl ⟨by decide, k_235⟩, List.forall_mem_cons.mpr ⟨Or.inl ⟨by decide, k_236⟩, List.forall_mem_cons.mpr ⟨Or.inl ⟨by decide, k_237⟩, List.forall_mem_cons.mpr ⟨Or.inl ⟨by decide, k_238⟩, List.forall_mem_cons.mpr ⟨Or.inl ⟨by decide, k_239⟩, List.forall_mem_cons.mpr ⟨Or.inl ⟨by decide, k_240⟩, List.forall_mem_cons.mpr ⟨Or.inl ⟨by decide, k_241⟩, List.forall_mem_cons.mpr ⟨Or.inl ⟨by decide, k_242⟩, List.forall_mem_cons.mpr ⟨Or.inl ⟨by decide, k_243⟩, fun _ h => absurd h List.not_mem_nil⟩⟩⟩⟩⟩⟩⟩⟩⟩⟩⟩⟩⟩⟩⟩⟩⟩⟩⟩⟩⟩⟩⟩⟩⟩⟩⟩⟩⟩⟩⟩⟩⟩⟩⟩⟩⟩⟩⟩⟩⟩⟩⟩⟩⟩⟩⟩⟩⟩⟩⟩⟩⟩⟩⟩⟩⟩⟩⟩⟩⟩⟩⟩⟩⟩⟩⟩⟩⟩⟩⟩⟩⟩⟩⟩⟩⟩⟩⟩⟩⟩⟩⟩⟩⟩⟩⟩⟩⟩⟩⟩⟩⟩⟩⟩⟩⟩⟩⟩⟩⟩⟩⟩⟩⟩⟩⟩⟩⟩⟩⟩⟩⟩⟩⟩⟩⟩⟩⟩⟩⟩⟩⟩⟩⟩⟩⟩⟩⟩⟩⟩⟩⟩⟩⟩⟩⟩⟩⟩⟩⟩⟩⟩⟩⟩⟩⟩⟩⟩⟩⟩
theorem ml_ok {o i y : Nat} (h : ml o i = some y) (hn : ¬ y = 1000 ∧ ¬ y = 1001 ∧ ¬ y = 1002) : y < nM ∧ Cond.methodLink (cN o) i (mY y) ∈ WA := by
  rcases ml_all _ (ml_mem h) with h | h | h | h
  · exact h
  · exact absurd h.1 hn.1
  · exact absurd h.1 hn.2.1
  · exact absurd h.1 hn.2.2
theorem mx_ok {o i : Nat} (h : ml o i = some 1000) : Cond.methodLink (cN o) i Lib.Math.max.name ∈ WA ∧ Cond.static Lib.Math.max.name ∈ WA ∧ Cond.initialized "java/lang/Math" ∈ WA ∧ Cond.code Lib.Math.max.name Lib.Math.max.code 2 (some .int) ∈ WA := by
  refine ⟨?_, k_724, k_634, k_725⟩
  rcases ml_all _ (ml_mem h) with h | h | h | h
  · exact absurd (show 1000 < nM from h.1) (by decide)
  · exact h.2
  · exact absurd (show 1000 = 1001 from h.1) (by decide)
  · exact absurd (show 1000 = 1002 from h.1) (by decide)
theorem mi_ok {o i : Nat} (h : ml o i = some 1001) : Cond.methodLink (cN o) i Lib.Math.min.name ∈ WA ∧ Cond.static Lib.Math.min.name ∈ WA ∧ Cond.initialized "java/lang/Math" ∈ WA ∧ Cond.code Lib.Math.min.name Lib.Math.min.code 2 (some .int) ∈ WA := by
  refine ⟨?_, k_726, k_634, k_727⟩
  rcases ml_all _ (ml_mem h) with h | h | h | h
  · exact absurd (show 1001 < nM from h.1) (by decide)
  · exact absurd (show 1001 = 1000 from h.1) (by decide)
  · exact h.2
  · exact absurd (show 1001 = 1002 from h.1) (by decide)
theorem ma_ok {o i : Nat} (h : ml o i = some 1002) : Cond.methodLink (cN o) i Lib.Math.abs.name ∈ WA ∧ Cond.static Lib.Math.abs.name ∈ WA ∧ Cond.initialized "java/lang/Math" ∈ WA ∧ Cond.code Lib.Math.abs.name Lib.Math.abs.code 1 (some .int) ∈ WA := by
  refine ⟨?_, k_728, k_634, k_729⟩
  rcases ml_all _ (ml_mem h) with h | h | h | h
  · exact absurd (show 1002 < nM from h.1) (by decide)
  · exact absurd (show 1002 = 1000 from h.1) (by decide)
  · exact absurd (show 1002 = 1001 from h.1) (by decide)
  · exact h.2
def mtP (y : Nat) : Prop := Cond.code (mY y) (mB y) (mL y) (mR y) ∈ WA ∧ Cond.initialized (mY y).cls ∈ WA ∧ (mY y).cls = cN (mO y) ∧ ((mY y).cls ≠ "java/lang/invoke/MethodHandle" ∧ (mY y).cls ≠ "java/lang/invoke/VarHandle") ∧ (parseMethodDescriptor (mY y).desc).map (fun d => d.parameters.length) = some (mN y) ∧ mL y ≤ 20 ∧ mN y + (match mS y with | true => 0 | false => 1) ≤ mL y ∧ (mS y = false → Cond.instanceMethod (mY y) ∈ WA ∧ Cond.selects (cN (mO y)) (mY y) (mY y) ∈ WA) ∧ (mS y = true → Cond.static (mY y) ∈ WA) ∧ plainFor (mY y) = true
theorem mt_0 : mtP 0 := ⟨k_244, k_245, rfl, ⟨by decide +kernel, by decide +kernel⟩, by decide +kernel, by decide, by decide, fun _ => ⟨k_246, k_247⟩, fun h => absurd h (by decide), by decide +kernel⟩
theorem mt_1 : mtP 1 := ⟨k_248, k_245, rfl, ⟨by decide +kernel, by decide +kernel⟩, by decide +kernel, by decide, by decide, fun _ => ⟨k_249, k_250⟩, fun h => absurd h (by decide), by decide +kernel⟩
theorem mt_2 : mtP 2 := ⟨k_251, k_245, rfl, ⟨by decide +kernel, by decide +kernel⟩, by decide +kernel, by decide, by decide, fun _ => ⟨k_252, k_253⟩, fun h => absurd h (by decide), by decide +kernel⟩
theorem mt_3 : mtP 3 := ⟨k_254, k_245, rfl, ⟨by decide +kernel, by decide +kernel⟩, by decide +kernel, by decide, by decide, fun _ => ⟨k_255, k_256⟩, fun h => absurd h (by decide), by decide +kernel⟩
theorem mt_4 : mtP 4 := ⟨k_257, k_245, rfl, ⟨by decide +kernel, by decide +kernel⟩, by decide +kernel, by decide, by decide, fun _ => ⟨k_258, k_259⟩, fun h => absurd h (by decide), by decide +kernel⟩
theorem mt_5 : mtP 5 := ⟨k_260, k_245, rfl, ⟨by decide +kernel, by decide +kernel⟩, by decide +kernel, by decide, by decide, fun _ => ⟨k_261, k_262⟩, fun h => absurd h (by decide), by decide +kernel⟩
theorem mt_6 : mtP 6 := ⟨k_263, k_245, rfl, ⟨by decide +kernel, by decide +kernel⟩, by decide +kernel, by decide, by decide, fun _ => ⟨k_264, k_265⟩, fun h => absurd h (by decide), by decide +kernel⟩
theorem mt_7 : mtP 7 := ⟨k_266, k_245, rfl, ⟨by decide +kernel, by decide +kernel⟩, by decide +kernel, by decide, by decide, fun _ => ⟨k_267, k_268⟩, fun h => absurd h (by decide), by decide +kernel⟩
theorem mt_8 : mtP 8 := ⟨k_269, k_245, rfl, ⟨by decide +kernel, by decide +kernel⟩, by decide +kernel, by decide, by decide, fun _ => ⟨k_270, k_271⟩, fun h => absurd h (by decide), by decide +kernel⟩
theorem mt_9 : mtP 9 := ⟨k_272, k_245, rfl, ⟨by decide +kernel, by decide +kernel⟩, by decide +kernel, by decide, by decide, fun _ => ⟨k_273, k_274⟩, fun h => absurd h (by decide), by decide +kernel⟩
theorem mt_10 : mtP 10 := ⟨k_275, k_245, rfl, ⟨by decide +kernel, by decide +kernel⟩, by decide +kernel, by decide, by decide, fun _ => ⟨k_276, k_277⟩, fun h => absurd h (by decide), by decide +kernel⟩
theorem mt_11 : mtP 11 := ⟨k_278, k_245, rfl, ⟨by decide +kernel, by decide +kernel⟩, by decide +kernel, by decide, by decide, fun _ => ⟨k_279, k_280⟩, fun h => absurd h (by decide), by decide +kernel⟩
theorem mt_12 : mtP 12 := ⟨k_281, k_245, rfl, ⟨by decide +kernel, by decide +kernel⟩, by decide +kernel, by decide, by decide, fun _ => ⟨k_282, k_283⟩, fun h => absurd h (by decide), by decide +kernel⟩
theorem mt_13 : mtP 13 := ⟨k_284, k_245, rfl, ⟨by decide +kernel, by decide +kernel⟩, by decide +kernel, by decide, by decide, fun _ => ⟨k_285, k_286⟩, fun h => absurd h (by decide), by decide +kernel⟩
theorem mt_14 : mtP 14 := ⟨k_287, k_245, rfl, ⟨by decide +kernel, by decide +kernel⟩, by decide +kernel, by decide, by decide, fun _ => ⟨k_288, k_289⟩, fun h => absurd h (by decide), by decide +kernel⟩
theorem mt_15 : mtP 15 := ⟨k_290, k_245, rfl, ⟨by decide +kernel, by decide +kernel⟩, by decide +kernel, by decide, by decide, fun _ => ⟨k_291, k_292⟩, fun h => absurd h (by decide), by decide +kernel⟩
theorem mt_16 : mtP 16 := ⟨k_293, k_245, rfl, ⟨by decide +kernel, by decide +kernel⟩, by decide +kernel, by decide, by decide, fun _ => ⟨k_294, k_295⟩, fun h => absurd h (by decide), by decide +kernel⟩
theorem mt_17 : mtP 17 := ⟨k_296, k_245, rfl, ⟨by decide +kernel, by decide +kernel⟩, by decide +kernel, by decide, by decide, fun _ => ⟨k_297, k_298⟩, fun h => absurd h (by decide), by decide +kernel⟩
theorem mt_18 : mtP 18 := ⟨k_299, k_300, rfl, ⟨by decide +kernel, by decide +kernel⟩, by decide +kernel, by decide, by decide, fun _ => ⟨k_301, k_302⟩, fun h => absurd h (by decide), by decide +kernel⟩
theorem mt_19 : mtP 19 := ⟨k_303, k_300, rfl, ⟨by decide +kernel, by decide +kernel⟩, by decide +kernel, by decide, by decide, fun _ => ⟨k_304, k_305⟩, fun h => absurd h (by decide), by decide +kernel⟩
theorem mt_20 : mtP 20 := ⟨k_306, k_307, rfl, ⟨by decide +kernel, by decide +kernel⟩, by decide +kernel, by decide, by decide, fun _ => ⟨k_308, k_309⟩, fun h => absurd h (by decide), by decide +kernel⟩
theorem mt_21 : mtP 21 := ⟨k_310, k_307, rfl, ⟨by decide +kernel, by decide +kernel⟩, by decide +kernel, by decide, by decide, fun _ => ⟨k_311, k_312⟩, fun h => absurd h (by decide), by decide +kernel⟩
theorem mt_22 : mtP 22 := ⟨k_313, k_307, rfl, ⟨by decide +kernel, by decide +kernel⟩, by decide +kernel, by decide, by decide, fun _ => ⟨k_314, k_315⟩, fun h => absurd h (by decide), by decide +kernel⟩
theorem mt_23 : mtP 23 := ⟨k_316, k_307, rfl, ⟨by decide +kernel, by decide +kernel⟩, by decide +kernel, by decide, by decide, fun _ => ⟨k_317, k_318⟩, fun h => absurd h (by decide), by decide +kernel⟩
theorem mt_24 : mtP 24 := ⟨k_319, k_307, rfl, ⟨by decide +kernel, by decide +kernel⟩, by decide +kernel, by decide, by decide, fun _ => ⟨k_320, k_321⟩, fun h => absurd h (by decide), by decide +kernel⟩
theorem mt_25 : mtP 25 := ⟨k_322, k_307, rfl, ⟨by decide +kernel, by decide +kernel⟩, by decide +kernel, by decide, by decide, fun _ => ⟨k_323, k_324⟩, fun h => absurd h (by decide), by decide +kernel⟩
theorem mt_26 : mtP 26 := ⟨k_325, k_307, rfl, ⟨by decide +kernel, by decide +kernel⟩, by decide +kernel, by decide, by decide, fun _ => ⟨k_326, k_327⟩, fun h => absurd h (by decide), by decide +kernel⟩
theorem mt_27 : mtP 27 := ⟨k_328, k_307, rfl, ⟨by decide +kernel, by decide +kernel⟩, by decide +kernel, by decide, by decide, fun _ => ⟨k_329, k_330⟩, fun h => absurd h (by decide), by decide +kernel⟩
theorem mt_28 : mtP 28 := ⟨k_331, k_307, rfl, ⟨by decide +kernel, by decide +kernel⟩, by decide +kernel, by decide, by decide, fun _ => ⟨k_332, k_333⟩, fun h => absurd h (by decide), by decide +kernel⟩
theorem mt_29 : mtP 29 := ⟨k_334, k_335, rfl, ⟨by decide +kernel, by decide +kernel⟩, by decide +kernel, by decide, by decide, fun _ => ⟨k_336, k_337⟩, fun h => absurd h (by decide), by decide +kernel⟩
theorem mt_30 : mtP 30 := ⟨k_338, k_335, rfl, ⟨by decide +kernel, by decide +kernel⟩, by decide +kernel, by decide, by decide, fun _ => ⟨k_339, k_340⟩, fun h => absurd h (by decide), by decide +kernel⟩
theorem mt_31 : mtP 31 := ⟨k_341, k_335, rfl, ⟨by decide +kernel, by decide +kernel⟩, by decide +kernel, by decide, by decide, fun _ => ⟨k_342, k_343⟩, fun h => absurd h (by decide), by decide +kernel⟩
theorem mt_32 : mtP 32 := ⟨k_344, k_335, rfl, ⟨by decide +kernel, by decide +kernel⟩, by decide +kernel, by decide, by decide, fun _ => ⟨k_345, k_346⟩, fun h => absurd h (by decide), by decide +kernel⟩
theorem mt_33 : mtP 33 := ⟨k_347, k_335, rfl, ⟨by decide +kernel, by decide +kernel⟩, by decide +kernel, by decide, by decide, fun _ => ⟨k_348, k_349⟩, fun h => absurd h (by decide), by decide +kernel⟩
theorem mt_34 : mtP 34 := ⟨k_350, k_335, rfl, ⟨by decide +kernel, by decide +kernel⟩, by decide +kernel, by decide, by decide, fun _ => ⟨k_351, k_352⟩, fun h => absurd h (by decide), by decide +kernel⟩
theorem mt_35 : mtP 35 := ⟨k_353, k_335, rfl, ⟨by decide +kernel, by decide +kernel⟩, by decide +kernel, by decide, by decide, fun _ => ⟨k_354, k_355⟩, fun h => absurd h (by decide), by decide +kernel⟩
theorem mt_36 : mtP 36 := ⟨k_356, k_335, rfl, ⟨by decide +kernel, by decide +kernel⟩, by decide +kernel, by decide, by decide, fun _ => ⟨k_357, k_358⟩, fun h => absurd h (by decide), by decide +kernel⟩
theorem mt_37 : mtP 37 := ⟨k_359, k_335, rfl, ⟨by decide +kernel, by decide +kernel⟩, by decide +kernel, by decide, by decide, fun _ => ⟨k_360, k_361⟩, fun h => absurd h (by decide), by decide +kernel⟩
theorem mt_38 : mtP 38 := ⟨k_362, k_335, rfl, ⟨by decide +kernel, by decide +kernel⟩, by decide +kernel, by decide, by decide, fun _ => ⟨k_363, k_364⟩, fun h => absurd h (by decide), by decide +kernel⟩
theorem mt_39 : mtP 39 := ⟨k_365, k_335, rfl, ⟨by decide +kernel, by decide +kernel⟩, by decide +kernel, by decide, by decide, fun _ => ⟨k_366, k_367⟩, fun h => absurd h (by decide), by decide +kernel⟩
theorem mt_40 : mtP 40 := ⟨k_368, k_335, rfl, ⟨by decide +kernel, by decide +kernel⟩, by decide +kernel, by decide, by decide, fun _ => ⟨k_369, k_370⟩, fun h => absurd h (by decide), by decide +kernel⟩
theorem mt_41 : mtP 41 := ⟨k_371, k_335, rfl, ⟨by decide +kernel, by decide +kernel⟩, by decide +kernel, by decide, by decide, fun _ => ⟨k_372, k_373⟩, fun h => absurd h (by decide), by decide +kernel⟩
theorem mt_42 : mtP 42 := ⟨k_374, k_335, rfl, ⟨by decide +kernel, by decide +kernel⟩, by decide +kernel, by decide, by decide, fun h => absurd h (by decide), fun _ => k_375, by decide +kernel⟩
theorem mt_43 : mtP 43 := ⟨k_376, k_335, rfl, ⟨by decide +kernel, by decide +kernel⟩, by decide +kernel, by decide, by decide, fun _ => ⟨k_377, k_378⟩, fun h => absurd h (by decide), by decide +kernel⟩
theorem mt_44 : mtP 44 := ⟨k_379, k_335, rfl, ⟨by decide +kernel, by decide +kernel⟩, by decide +kernel, by decide, by decide, fun _ => ⟨k_380, k_381⟩, fun h => absurd h (by decide), by decide +kernel⟩
theorem mt_45 : mtP 45 := ⟨k_382, k_335, rfl, ⟨by decide +kernel, by decide +kernel⟩, by decide +kernel, by decide, by decide, fun _ => ⟨k_383, k_384⟩, fun h => absurd h (by decide), by decide +kernel⟩
theorem mt_46 : mtP 46 := ⟨k_385, k_335, rfl, ⟨by decide +kernel, by decide +kernel⟩, by decide +kernel, by decide, by decide, fun _ => ⟨k_386, k_387⟩, fun h => absurd h (by decide), by decide +kernel⟩
theorem mt_47 : mtP 47 := ⟨k_388, k_389, rfl, ⟨by decide +kernel, by decide +kernel⟩, by decide +kernel, by decide, by decide, fun _ => ⟨k_390, k_391⟩, fun h => absurd h (by decide), by decide +kernel⟩
theorem mt_48 : mtP 48 := ⟨k_392, k_389, rfl, ⟨by decide +kernel, by decide +kernel⟩, by decide +kernel, by decide, by decide, fun _ => ⟨k_393, k_394⟩, fun h => absurd h (by decide), by decide +kernel⟩
theorem mt_49 : mtP 49 := ⟨k_395, k_389, rfl, ⟨by decide +kernel, by decide +kernel⟩, by decide +kernel, by decide, by decide, fun _ => ⟨k_396, k_397⟩, fun h => absurd h (by decide), by decide +kernel⟩
theorem mt_50 : mtP 50 := ⟨k_398, k_389, rfl, ⟨by decide +kernel, by decide +kernel⟩, by decide +kernel, by decide, by decide, fun _ => ⟨k_399, k_400⟩, fun h => absurd h (by decide), by decide +kernel⟩
theorem mt_51 : mtP 51 := ⟨k_401, k_389, rfl, ⟨by decide +kernel, by decide +kernel⟩, by decide +kernel, by decide, by decide, fun _ => ⟨k_402, k_403⟩, fun h => absurd h (by decide), by decide +kernel⟩
theorem mt_52 : mtP 52 := ⟨k_404, k_389, rfl, ⟨by decide +kernel, by decide +kernel⟩, by decide +kernel, by decide, by decide, fun _ => ⟨k_405, k_406⟩, fun h => absurd h (by decide), by decide +kernel⟩
theorem mt_53 : mtP 53 := ⟨k_407, k_389, rfl, ⟨by decide +kernel, by decide +kernel⟩, by decide +kernel, by decide, by decide, fun _ => ⟨k_408, k_409⟩, fun h => absurd h (by decide), by decide +kernel⟩
theorem mt_54 : mtP 54 := ⟨k_410, k_389, rfl, ⟨by decide +kernel, by decide +kernel⟩, by decide +kernel, by decide, by decide, fun _ => ⟨k_411, k_412⟩, fun h => absurd h (by decide), by decide +kernel⟩
theorem mt_55 : mtP 55 := ⟨k_413, k_414, rfl, ⟨by decide +kernel, by decide +kernel⟩, by decide +kernel, by decide, by decide, fun _ => ⟨k_415, k_416⟩, fun h => absurd h (by decide), by decide +kernel⟩
theorem mt_56 : mtP 56 := ⟨k_417, k_414, rfl, ⟨by decide +kernel, by decide +kernel⟩, by decide +kernel, by decide, by decide, fun _ => ⟨k_418, k_419⟩, fun h => absurd h (by decide), by decide +kernel⟩
theorem mt_57 : mtP 57 := ⟨k_420, k_414, rfl, ⟨by decide +kernel, by decide +kernel⟩, by decide +kernel, by decide, by decide, fun _ => ⟨k_421, k_422⟩, fun h => absurd h (by decide), by decide +kernel⟩
theorem mt_58 : mtP 58 := ⟨k_423, k_414, rfl, ⟨by decide +kernel, by decide +kernel⟩, by decide +kernel, by decide, by decide, fun _ => ⟨k_424, k_425⟩, fun h => absurd h (by decide), by decide +kernel⟩
theorem mt_59 : mtP 59 := ⟨k_426, k_414, rfl, ⟨by decide +kernel, by decide +kernel⟩, by decide +kernel, by decide, by decide, fun _ => ⟨k_427, k_428⟩, fun h => absurd h (by decide), by decide +kernel⟩
theorem mt_60 : mtP 60 := ⟨k_429, k_414, rfl, ⟨by decide +kernel, by decide +kernel⟩, by decide +kernel, by decide, by decide, fun _ => ⟨k_430, k_431⟩, fun h => absurd h (by decide), by decide +kernel⟩
theorem mt_61 : mtP 61 := ⟨k_432, k_414, rfl, ⟨by decide +kernel, by decide +kernel⟩, by decide +kernel, by decide, by decide, fun _ => ⟨k_433, k_434⟩, fun h => absurd h (by decide), by decide +kernel⟩
theorem mt_62 : mtP 62 := ⟨k_435, k_414, rfl, ⟨by decide +kernel, by decide +kernel⟩, by decide +kernel, by decide, by decide, fun _ => ⟨k_436, k_437⟩, fun h => absurd h (by decide), by decide +kernel⟩
theorem mt_63 : mtP 63 := ⟨k_438, k_414, rfl, ⟨by decide +kernel, by decide +kernel⟩, by decide +kernel, by decide, by decide, fun _ => ⟨k_439, k_440⟩, fun h => absurd h (by decide), by decide +kernel⟩
theorem mt_64 : mtP 64 := ⟨k_441, k_414, rfl, ⟨by decide +kernel, by decide +kernel⟩, by decide +kernel, by decide, by decide, fun _ => ⟨k_442, k_443⟩, fun h => absurd h (by decide), by decide +kernel⟩
theorem mt_65 : mtP 65 := ⟨k_444, k_414, rfl, ⟨by decide +kernel, by decide +kernel⟩, by decide +kernel, by decide, by decide, fun _ => ⟨k_445, k_446⟩, fun h => absurd h (by decide), by decide +kernel⟩
theorem mt_66 : mtP 66 := ⟨k_447, k_448, rfl, ⟨by decide +kernel, by decide +kernel⟩, by decide +kernel, by decide, by decide, fun _ => ⟨k_449, k_450⟩, fun h => absurd h (by decide), by decide +kernel⟩
theorem mt_67 : mtP 67 := ⟨k_451, k_448, rfl, ⟨by decide +kernel, by decide +kernel⟩, by decide +kernel, by decide, by decide, fun _ => ⟨k_452, k_453⟩, fun h => absurd h (by decide), by decide +kernel⟩
theorem mt_68 : mtP 68 := ⟨k_454, k_448, rfl, ⟨by decide +kernel, by decide +kernel⟩, by decide +kernel, by decide, by decide, fun _ => ⟨k_455, k_456⟩, fun h => absurd h (by decide), by decide +kernel⟩
theorem mt_69 : mtP 69 := ⟨k_457, k_448, rfl, ⟨by decide +kernel, by decide +kernel⟩, by decide +kernel, by decide, by decide, fun _ => ⟨k_458, k_459⟩, fun h => absurd h (by decide), by decide +kernel⟩
theorem mt_70 : mtP 70 := ⟨k_460, k_448, rfl, ⟨by decide +kernel, by decide +kernel⟩, by decide +kernel, by decide, by decide, fun _ => ⟨k_461, k_462⟩, fun h => absurd h (by decide), by decide +kernel⟩
theorem mt_71 : mtP 71 := ⟨k_463, k_448, rfl, ⟨by decide +kernel, by decide +kernel⟩, by decide +kernel, by decide, by decide, fun h => absurd h (by decide), fun _ => k_464, by decide +kernel⟩
theorem mt_72 : mtP 72 := ⟨k_465, k_448, rfl, ⟨by decide +kernel, by decide +kernel⟩, by decide +kernel, by decide, by decide, fun h => absurd h (by decide), fun _ => k_466, by decide +kernel⟩
theorem mt_73 : mtP 73 := ⟨k_467, k_448, rfl, ⟨by decide +kernel, by decide +kernel⟩, by decide +kernel, by decide, by decide, fun _ => ⟨k_468, k_469⟩, fun h => absurd h (by decide), by decide +kernel⟩
theorem mt_74 : mtP 74 := ⟨k_470, k_471, rfl, ⟨by decide +kernel, by decide +kernel⟩, by decide +kernel, by decide, by decide, fun _ => ⟨k_472, k_473⟩, fun h => absurd h (by decide), by decide +kernel⟩
theorem mt_75 : mtP 75 := ⟨k_474, k_471, rfl, ⟨by decide +kernel, by decide +kernel⟩, by decide +kernel, by decide, by decide, fun _ => ⟨k_475, k_476⟩, fun h => absurd h (by decide), by decide +kernel⟩
theorem mt_76 : mtP 76 := ⟨k_477, k_471, rfl, ⟨by decide +kernel, by decide +kernel⟩, by decide +kernel, by decide, by decide, fun _ => ⟨k_478, k_479⟩, fun h => absurd h (by decide), by decide +kernel⟩
theorem mt_77 : mtP 77 := ⟨k_480, k_471, rfl, ⟨by decide +kernel, by decide +kernel⟩, by decide +kernel, by decide, by decide, fun _ => ⟨k_481, k_482⟩, fun h => absurd h (by decide), by decide +kernel⟩
theorem mt_78 : mtP 78 := ⟨k_483, k_471, rfl, ⟨by decide +kernel, by decide +kernel⟩, by decide +kernel, by decide, by decide, fun _ => ⟨k_484, k_485⟩, fun h => absurd h (by decide), by decide +kernel⟩
theorem mt_79 : mtP 79 := ⟨k_486, k_471, rfl, ⟨by decide +kernel, by decide +kernel⟩, by decide +kernel, by decide, by decide, fun _ => ⟨k_487, k_488⟩, fun h => absurd h (by decide), by decide +kernel⟩
theorem mt_80 : mtP 80 := ⟨k_489, k_471, rfl, ⟨by decide +kernel, by decide +kernel⟩, by decide +kernel, by decide, by decide, fun _ => ⟨k_490, k_491⟩, fun h => absurd h (by decide), by decide +kernel⟩
theorem mt_81 : mtP 81 := ⟨k_492, k_471, rfl, ⟨by decide +kernel, by decide +kernel⟩, by decide +kernel, by decide, by decide, fun _ => ⟨k_493, k_494⟩, fun h => absurd h (by decide), by decide +kernel⟩
theorem mt_82 : mtP 82 := ⟨k_495, k_471, rfl, ⟨by decide +kernel, by decide +kernel⟩, by decide +kernel, by decide, by decide, fun _ => ⟨k_496, k_497⟩, fun h => absurd h (by decide), by decide +kernel⟩
theorem mt_83 : mtP 83 := ⟨k_498, k_471, rfl, ⟨by decide +kernel, by decide +kernel⟩, by decide +kernel, by decide, by decide, fun _ => ⟨k_499, k_500⟩, fun h => absurd h (by decide), by decide +kernel⟩
theorem mt_84 : mtP 84 := ⟨k_501, k_471, rfl, ⟨by decide +kernel, by decide +kernel⟩, by decide +kernel, by decide, by decide, fun _ => ⟨k_502, k_503⟩, fun h => absurd h (by decide), by decide +kernel⟩
theorem mt_85 : mtP 85 := ⟨k_504, k_471, rfl, ⟨by decide +kernel, by decide +kernel⟩, by decide +kernel, by decide, by decide, fun _ => ⟨k_505, k_506⟩, fun h => absurd h (by decide), by decide +kernel⟩
theorem mt_86 : mtP 86 := ⟨k_507, k_471, rfl, ⟨by decide +kernel, by decide +kernel⟩, by decide +kernel, by decide, by decide, fun _ => ⟨k_508, k_509⟩, fun h => absurd h (by decide), by decide +kernel⟩
theorem mt_87 : mtP 87 := ⟨k_510, k_471, rfl, ⟨by decide +kernel, by decide +kernel⟩, by decide +kernel, by decide, by decide, fun _ => ⟨k_511, k_512⟩, fun h => absurd h (by decide), by decide +kernel⟩
theorem mt_88 : mtP 88 := ⟨k_513, k_471, rfl, ⟨by decide +kernel, by decide +kernel⟩, by decide +kernel, by decide, by decide, fun _ => ⟨k_514, k_515⟩, fun h => absurd h (by decide), by decide +kernel⟩
theorem mt_89 : mtP 89 := ⟨k_516, k_471, rfl, ⟨by decide +kernel, by decide +kernel⟩, by decide +kernel, by decide, by decide, fun _ => ⟨k_517, k_518⟩, fun h => absurd h (by decide), by decide +kernel⟩
theorem mt_90 : mtP 90 := ⟨k_519, k_471, rfl, ⟨by decide +kernel, by decide +kernel⟩, by decide +kernel, by decide, by decide, fun _ => ⟨k_520, k_521⟩, fun h => absurd h (by decide), by decide +kernel⟩
theorem mt_91 : mtP 91 := ⟨k_522, k_471, rfl, ⟨by decide +kernel, by decide +kernel⟩, by decide +kernel, by decide, by decide, fun _ => ⟨k_523, k_524⟩, fun h => absurd h (by decide), by decide +kernel⟩
theorem mt_92 : mtP 92 := ⟨k_525, k_471, rfl, ⟨by decide +kernel, by decide +kernel⟩, by decide +kernel, by decide, by decide, fun _ => ⟨k_526, k_527⟩, fun h => absurd h (by decide), by decide +kernel⟩
theorem mt_93 : mtP 93 := ⟨k_528, k_471, rfl, ⟨by decide +kernel, by decide +kernel⟩, by decide +kernel, by decide, by decide, fun _ => ⟨k_529, k_530⟩, fun h => absurd h (by decide), by decide +kernel⟩
theorem mt_94 : mtP 94 := ⟨k_531, k_471, rfl, ⟨by decide +kernel, by decide +kernel⟩, by decide +kernel, by decide, by decide, fun _ => ⟨k_532, k_533⟩, fun h => absurd h (by decide), by decide +kernel⟩
theorem mt_95 : mtP 95 := ⟨k_534, k_471, rfl, ⟨by decide +kernel, by decide +kernel⟩, by decide +kernel, by decide, by decide, fun _ => ⟨k_535, k_536⟩, fun h => absurd h (by decide), by decide +kernel⟩
theorem mt_96 : mtP 96 := ⟨k_537, k_471, rfl, ⟨by decide +kernel, by decide +kernel⟩, by decide +kernel, by decide, by decide, fun _ => ⟨k_538, k_539⟩, fun h => absurd h (by decide), by decide +kernel⟩
theorem mt_97 : mtP 97 := ⟨k_540, k_471, rfl, ⟨by decide +kernel, by decide +kernel⟩, by decide +kernel, by decide, by decide, fun _ => ⟨k_541, k_542⟩, fun h => absurd h (by decide), by decide +kernel⟩
theorem mt_98 : mtP 98 := ⟨k_543, k_471, rfl, ⟨by decide +kernel, by decide +kernel⟩, by decide +kernel, by decide, by decide, fun _ => ⟨k_544, k_545⟩, fun h => absurd h (by decide), by decide +kernel⟩
theorem mt_99 : mtP 99 := ⟨k_546, k_471, rfl, ⟨by decide +kernel, by decide +kernel⟩, by decide +kernel, by decide, by decide, fun _ => ⟨k_547, k_548⟩, fun h => absurd h (by decide), by decide +kernel⟩
theorem mt_100 : mtP 100 := ⟨k_549, k_471, rfl, ⟨by decide +kernel, by decide +kernel⟩, by decide +kernel, by decide, by decide, fun _ => ⟨k_550, k_551⟩, fun h => absurd h (by decide), by decide +kernel⟩
theorem mt_101 : mtP 101 := ⟨k_552, k_471, rfl, ⟨by decide +kernel, by decide +kernel⟩, by decide +kernel, by decide, by decide, fun _ => ⟨k_553, k_554⟩, fun h => absurd h (by decide), by decide +kernel⟩
theorem mt_102 : mtP 102 := ⟨k_555, k_471, rfl, ⟨by decide +kernel, by decide +kernel⟩, by decide +kernel, by decide, by decide, fun _ => ⟨k_556, k_557⟩, fun h => absurd h (by decide), by decide +kernel⟩
theorem mt_103 : mtP 103 := ⟨k_558, k_471, rfl, ⟨by decide +kernel, by decide +kernel⟩, by decide +kernel, by decide, by decide, fun _ => ⟨k_559, k_560⟩, fun h => absurd h (by decide), by decide +kernel⟩
theorem mt_104 : mtP 104 := ⟨k_561, k_471, rfl, ⟨by decide +kernel, by decide +kernel⟩, by decide +kernel, by decide, by decide, fun _ => ⟨k_562, k_563⟩, fun h => absurd h (by decide), by decide +kernel⟩
theorem mt_105 : mtP 105 := ⟨k_564, k_471, rfl, ⟨by decide +kernel, by decide +kernel⟩, by decide +kernel, by decide, by decide, fun _ => ⟨k_565, k_566⟩, fun h => absurd h (by decide), by decide +kernel⟩
theorem mt_106 : mtP 106 := ⟨k_567, k_471, rfl, ⟨by decide +kernel, by decide +kernel⟩, by decide +kernel, by decide, by decide, fun _ => ⟨k_568, k_569⟩, fun h => absurd h (by decide), by decide +kernel⟩
theorem mt_107 : mtP 107 := ⟨k_570, k_471, rfl, ⟨by decide +kernel, by decide +kernel⟩, by decide +kernel, by decide, by decide, fun _ => ⟨k_571, k_572⟩, fun h => absurd h (by decide), by decide +kernel⟩
theorem mt_108 : mtP 108 := ⟨k_573, k_471, rfl, ⟨by decide +kernel, by decide +kernel⟩, by decide +kernel, by decide, by decide, fun _ => ⟨k_574, k_575⟩, fun h => absurd h (by decide), by decide +kernel⟩
theorem mt_109 : mtP 109 := ⟨k_576, k_471, rfl, ⟨by decide +kernel, by decide +kernel⟩, by decide +kernel, by decide, by decide, fun _ => ⟨k_577, k_578⟩, fun h => absurd h (by decide), by decide +kernel⟩
theorem mt_110 : mtP 110 := ⟨k_579, k_471, rfl, ⟨by decide +kernel, by decide +kernel⟩, by decide +kernel, by decide, by decide, fun _ => ⟨k_580, k_581⟩, fun h => absurd h (by decide), by decide +kernel⟩
theorem mt_111 : mtP 111 := ⟨k_582, k_471, rfl, ⟨by decide +kernel, by decide +kernel⟩, by decide +kernel, by decide, by decide, fun _ => ⟨k_583, k_584⟩, fun h => absurd h (by decide), by decide +kernel⟩
theorem mt_112 : mtP 112 := ⟨k_585, k_471, rfl, ⟨by decide +kernel, by decide +kernel⟩, by decide +kernel, by decide, by decide, fun _ => ⟨k_586, k_587⟩, fun h => absurd h (by decide), by decide +kernel⟩
theorem mt_113 : mtP 113 := ⟨k_588, k_471, rfl, ⟨by decide +kernel, by decide +kernel⟩, by decide +kernel, by decide, by decide, fun _ => ⟨k_589, k_590⟩, fun h => absurd h (by decide), by decide +kernel⟩
theorem mt_114 : mtP 114 := ⟨k_591, k_471, rfl, ⟨by decide +kernel, by decide +kernel⟩, by decide +kernel, by decide, by decide, fun _ => ⟨k_592, k_593⟩, fun h => absurd h (by decide), by decide +kernel⟩
theorem mt_115 : mtP 115 := ⟨k_594, k_471, rfl, ⟨by decide +kernel, by decide +kernel⟩, by decide +kernel, by decide, by decide, fun _ => ⟨k_595, k_596⟩, fun h => absurd h (by decide), by decide +kernel⟩
theorem mt_116 : mtP 116 := ⟨k_597, k_471, rfl, ⟨by decide +kernel, by decide +kernel⟩, by decide +kernel, by decide, by decide, fun _ => ⟨k_598, k_599⟩, fun h => absurd h (by decide), by decide +kernel⟩
theorem mt_117 : mtP 117 := ⟨k_600, k_471, rfl, ⟨by decide +kernel, by decide +kernel⟩, by decide +kernel, by decide, by decide, fun _ => ⟨k_601, k_602⟩, fun h => absurd h (by decide), by decide +kernel⟩
theorem mt_118 : mtP 118 := ⟨k_603, k_471, rfl, ⟨by decide +kernel, by decide +kernel⟩, by decide +kernel, by decide, by decide, fun _ => ⟨k_604, k_605⟩, fun h => absurd h (by decide), by decide +kernel⟩
theorem mt_119 : mtP 119 := ⟨k_606, k_471, rfl, ⟨by decide +kernel, by decide +kernel⟩, by decide +kernel, by decide, by decide, fun _ => ⟨k_607, k_608⟩, fun h => absurd h (by decide), by decide +kernel⟩
theorem mt_120 : mtP 120 := ⟨k_609, k_471, rfl, ⟨by decide +kernel, by decide +kernel⟩, by decide +kernel, by decide, by decide, fun _ => ⟨k_610, k_611⟩, fun h => absurd h (by decide), by decide +kernel⟩
theorem mt_121 : mtP 121 := ⟨k_612, k_471, rfl, ⟨by decide +kernel, by decide +kernel⟩, by decide +kernel, by decide, by decide, fun _ => ⟨k_613, k_614⟩, fun h => absurd h (by decide), by decide +kernel⟩
theorem mt_122 : mtP 122 := ⟨k_615, k_471, rfl, ⟨by decide +kernel, by decide +kernel⟩, by decide +kernel, by decide, by decide, fun _ => ⟨k_616, k_617⟩, fun h => absurd h (by decide), by decide +kernel⟩
theorem mt_123 : mtP 123 := ⟨k_618, k_471, rfl, ⟨by decide +kernel, by decide +kernel⟩, by decide +kernel, by decide, by decide, fun _ => ⟨k_619, k_620⟩, fun h => absurd h (by decide), by decide +kernel⟩
theorem mt_124 : mtP 124 := ⟨k_621, k_471, rfl, ⟨by decide +kernel, by decide +kernel⟩, by decide +kernel, by decide, by decide, fun _ => ⟨k_622, k_623⟩, fun h => absurd h (by decide), by decide +kernel⟩
theorem mt_125 : mtP 125 := ⟨k_624, k_471, rfl, ⟨by decide +kernel, by decide +kernel⟩, by decide +kernel, by decide, by decide, fun _ => ⟨k_625, k_626⟩, fun h => absurd h (by decide), by decide +kernel⟩
theorem mt_126 : mtP 126 := ⟨k_627, k_471, rfl, ⟨by decide +kernel, by decide +kernel⟩, by decide +kernel, by decide, by decide, fun _ => ⟨k_628, k_629⟩, fun h => absurd h (by decide), by decide +kernel⟩
theorem mt_127 : mtP 127 := ⟨k_630, k_471, rfl, ⟨by decide +kernel, by decide +kernel⟩, by decide +kernel, by decide, by decide, fun _ => ⟨k_631, k_632⟩, fun h => absurd h (by decide), by decide +kernel⟩
theorem mt_128 : mtP 128 := ⟨k_633, k_634, rfl, ⟨by decide +kernel, by decide +kernel⟩, by decide +kernel, by decide, by decide, fun h => absurd h (by decide), fun _ => k_635, by decide +kernel⟩
theorem mtb_0 : ∀ y, 0 ≤ y → y < 16 → mtP y := by
  intro y h1 h2
  rcases (by omega : y = 0 ∨ y = 1 ∨ y = 2 ∨ y = 3 ∨ y = 4 ∨ y = 5 ∨ y = 6 ∨ y = 7 ∨ y = 8 ∨ y = 9 ∨ y = 10 ∨ y = 11 ∨ y = 12 ∨ y = 13 ∨ y = 14 ∨ y = 15) with rfl | rfl | rfl | rfl | rfl | rfl | rfl | rfl | rfl | rfl | rfl | rfl | rfl | rfl | rfl | rfl
  · exact mt_0
  · exact mt_1
  · exact mt_2
  · exact mt_3
  · exact mt_4
  · exact mt_5
  · exact mt_6
  · exact mt_7
  · exact mt_8
  · exact mt_9
  · exact mt_10
  · exact mt_11
  · exact mt_12
  · exact mt_13
  · exact mt_14
  · exact mt_15
theorem mtb_1 : ∀ y, 16 ≤ y → y < 32 → mtP y := by
  intro y h1 h2
  rcases (by omega : y = 16 ∨ y = 17 ∨ y = 18 ∨ y = 19 ∨ y = 20 ∨ y = 21 ∨ y = 22 ∨ y = 23 ∨ y = 24 ∨ y = 25 ∨ y = 26 ∨ y = 27 ∨ y = 28 ∨ y = 29 ∨ y = 30 ∨ y = 31) with rfl | rfl | rfl | rfl | rfl | rfl | rfl | rfl | rfl | rfl | rfl | rfl | rfl | rfl | rfl | rfl
  · exact mt_16
  · exact mt_17
  · exact mt_18
  · exact mt_19
  · exact mt_20
  · exact mt_21
  · exact mt_22
  · exact mt_23
  · exact mt_24
  · exact mt_25
  · exact mt_26
  · exact mt_27
  · exact mt_28
  · exact mt_29
  · exact mt_30
  · exact mt_31
theorem mtb_2 : ∀ y, 32 ≤ y → y < 48 → mtP y := by
  intro y h1 h2
  rcases (by omega : y = 32 ∨ y = 33 ∨ y = 34 ∨ y = 35 ∨ y = 36 ∨ y = 37 ∨ y = 38 ∨ y = 39 ∨ y = 40 ∨ y = 41 ∨ y = 42 ∨ y = 43 ∨ y = 44 ∨ y = 45 ∨ y = 46 ∨ y = 47) with rfl | rfl | rfl | rfl | rfl | rfl | rfl | rfl | rfl | rfl | rfl | rfl | rfl | rfl | rfl | rfl
  · exact mt_32
  · exact mt_33
  · exact mt_34
  · exact mt_35
  · exact mt_36
  · exact mt_37
  · exact mt_38
  · exact mt_39
  · exact mt_40
  · exact mt_41
  · exact mt_42
  · exact mt_43
  · exact mt_44
  · exact mt_45
  · exact mt_46
  · exact mt_47
theorem mtb_3 : ∀ y, 48 ≤ y → y < 64 → mtP y := by
  intro y h1 h2
  rcases (by omega : y = 48 ∨ y = 49 ∨ y = 50 ∨ y = 51 ∨ y = 52 ∨ y = 53 ∨ y = 54 ∨ y = 55 ∨ y = 56 ∨ y = 57 ∨ y = 58 ∨ y = 59 ∨ y = 60 ∨ y = 61 ∨ y = 62 ∨ y = 63) with rfl | rfl | rfl | rfl | rfl | rfl | rfl | rfl | rfl | rfl | rfl | rfl | rfl | rfl | rfl | rfl
  · exact mt_48
  · exact mt_49
  · exact mt_50
  · exact mt_51
  · exact mt_52
  · exact mt_53
  · exact mt_54
  · exact mt_55
  · exact mt_56
  · exact mt_57
  · exact mt_58
  · exact mt_59
  · exact mt_60
  · exact mt_61
  · exact mt_62
  · exact mt_63
theorem mtb_4 : ∀ y, 64 ≤ y → y < 80 → mtP y := by
  intro y h1 h2
  rcases (by omega : y = 64 ∨ y = 65 ∨ y = 66 ∨ y = 67 ∨ y = 68 ∨ y = 69 ∨ y = 70 ∨ y = 71 ∨ y = 72 ∨ y = 73 ∨ y = 74 ∨ y = 75 ∨ y = 76 ∨ y = 77 ∨ y = 78 ∨ y = 79) with rfl | rfl | rfl | rfl | rfl | rfl | rfl | rfl | rfl | rfl | rfl | rfl | rfl | rfl | rfl | rfl
  · exact mt_64
  · exact mt_65
  · exact mt_66
  · exact mt_67
  · exact mt_68
  · exact mt_69
  · exact mt_70
  · exact mt_71
  · exact mt_72
  · exact mt_73
  · exact mt_74
  · exact mt_75
  · exact mt_76
  · exact mt_77
  · exact mt_78
  · exact mt_79
theorem mtb_5 : ∀ y, 80 ≤ y → y < 96 → mtP y := by
  intro y h1 h2
  rcases (by omega : y = 80 ∨ y = 81 ∨ y = 82 ∨ y = 83 ∨ y = 84 ∨ y = 85 ∨ y = 86 ∨ y = 87 ∨ y = 88 ∨ y = 89 ∨ y = 90 ∨ y = 91 ∨ y = 92 ∨ y = 93 ∨ y = 94 ∨ y = 95) with rfl | rfl | rfl | rfl | rfl | rfl | rfl | rfl | rfl | rfl | rfl | rfl | rfl | rfl | rfl | rfl
  · exact mt_80
  · exact mt_81
  · exact mt_82
  · exact mt_83
  · exact mt_84
  · exact mt_85
  · exact mt_86
  · exact mt_87
  · exact mt_88
  · exact mt_89
  · exact mt_90
  · exact mt_91
  · exact mt_92
  · exact mt_93
  · exact mt_94
  · exact mt_95
theorem mtb_6 : ∀ y, 96 ≤ y → y < 112 → mtP y := by
  intro y h1 h2
  rcases (by omega : y = 96 ∨ y = 97 ∨ y = 98 ∨ y = 99 ∨ y = 100 ∨ y = 101 ∨ y = 102 ∨ y = 103 ∨ y = 104 ∨ y = 105 ∨ y = 106 ∨ y = 107 ∨ y = 108 ∨ y = 109 ∨ y = 110 ∨ y = 111) with rfl | rfl | rfl | rfl | rfl | rfl | rfl | rfl | rfl | rfl | rfl | rfl | rfl | rfl | rfl | rfl
  · exact mt_96
  · exact mt_97
  · exact mt_98
  · exact mt_99
  · exact mt_100
  · exact mt_101
  · exact mt_102
  · exact mt_103
  · exact mt_104
  · exact mt_105
  · exact mt_106
  · exact mt_107
  · exact mt_108
  · exact mt_109
  · exact mt_110
  · exact mt_111
theorem mtb_7 : ∀ y, 112 ≤ y → y < 128 → mtP y := by
  intro y h1 h2
  rcases (by omega : y = 112 ∨ y = 113 ∨ y = 114 ∨ y = 115 ∨ y = 116 ∨ y = 117 ∨ y = 118 ∨ y = 119 ∨ y = 120 ∨ y = 121 ∨ y = 122 ∨ y = 123 ∨ y = 124 ∨ y = 125 ∨ y = 126 ∨ y = 127) with rfl | rfl | rfl | rfl | rfl | rfl | rfl | rfl | rfl | rfl | rfl | rfl | rfl | rfl | rfl | rfl
  · exact mt_112
  · exact mt_113
  · exact mt_114
  · exact mt_115
  · exact mt_116
  · exact mt_117
  · exact mt_118
  · exact mt_119
  · exact mt_120
  · exact mt_121
  · exact mt_122
  · exact mt_123
  · exact mt_124
  · exact mt_125
  · exact mt_126
  · exact mt_127
theorem mtb_8 : ∀ y, 128 ≤ y → y < 129 → mtP y := by
  intro y h1 h2
  rcases (by omega : y = 128) with rfl
  · exact mt_128
theorem mth_ok {y : Nat} (h : y < nM) : mtP y := by
  have h : y < 129 := h
  rcases (by omega : (0 ≤ y ∧ y < 16) ∨ (16 ≤ y ∧ y < 32) ∨ (32 ≤ y ∧ y < 48) ∨ (48 ≤ y ∧ y < 64) ∨ (64 ≤ y ∧ y < 80) ∨ (80 ≤ y ∧ y < 96) ∨ (96 ≤ y ∧ y < 112) ∨ (112 ≤ y ∧ y < 128) ∨ (128 ≤ y ∧ y < 129)) with h | h | h | h | h | h | h | h | h
  · exact mtb_0 y h.1 h.2
  · exact mtb_1 y h.1 h.2
  · exact mtb_2 y h.1 h.2
  · exact mtb_3 y h.1 h.2
  · exact mtb_4 y h.1 h.2
  · exact mtb_5 y h.1 h.2
  · exact mtb_6 y h.1 h.2
  · exact mtb_7 y h.1 h.2
  · exact mtb_8 y h.1 h.2
def kIT : List (Nat × Nat × Int) := [(7, 220, (1000000))]
def kI (o i : Nat) : Option (Int) := (kIT.find? fun q => q.1 == o && q.2.1 == i).map fun q => q.2.2
theorem kI_mem {o i : Nat} {w : Int} (h : kI o i = some w) : (o, i, w) ∈ kIT := by
  unfold kI at h
  cases hf : kIT.find? (fun q => q.1 == o && q.2.1 == i) with
  | none => rw [hf] at h; cases h
  | some q =>
    rw [hf] at h
    obtain ⟨a, b, v⟩ := q
    have h1 := List.find?_some hf
    have h2 := List.mem_of_find?_eq_some hf
    simp only [Bool.and_eq_true, beq_iff_eq] at h1
    cases h
    rw [← h1.1, ← h1.2]
    exact h2
def kLT : List (Nat × Nat × Int) := [(0, 67, (12)), (0, 73, (36)), (0, 75, (60))]
def kL (o i : Nat) : Option (Int) := (kLT.find? fun q => q.1 == o && q.2.1 == i).map fun q => q.2.2
theorem kL_mem {o i : Nat} {w : Int} (h : kL o i = some w) : (o, i, w) ∈ kLT := by
  unfold kL at h
  cases hf : kLT.find? (fun q => q.1 == o && q.2.1 == i) with
  | none => rw [hf] at h; cases h
  | some q =>
    rw [hf] at h
    obtain ⟨a, b, v⟩ := q
    have h1 := List.find?_some hf
    have h2 := List.mem_of_find?_eq_some hf
    simp only [Bool.and_eq_true, beq_iff_eq] at h1
    cases h
    rw [← h1.1, ← h1.2]
    exact h2
def thT : List (Nat × Nat × Nat) := [(0, 12, 1), (1, 11, 1), (2, 29, 1), (2, 76, 1), (3, 27, 1), (3, 65, 2), (4, 21, 2), (4, 43, 3), (6, 44, 3), (10, 23, 1), (12, 15, 3), (12, 34, 1), (13, 9, 1), (14, 9, 1), (15, 12, 2), (17, 10, 2)]
def th (y pc : Nat) : Option Nat := (thT.find? fun q => q.1 == y && q.2.1 == pc).map fun q => q.2.2
