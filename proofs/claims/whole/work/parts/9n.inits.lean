/-! THE CONSTRUCTORS: names, words, instructions, by program (mkinit.py). Number o: the constructor of class o -/
def kY (o : Nat) : MethodName := ⟨cN o, "<init>", "()V"⟩
def kB (o : Nat) : ByteArray := match o with
  | 0 => prog_1_method_1_code
  | 1 => prog_4_method_1_code
  | 2 => prog_7_method_1_code
  | 3 => prog_2_method_1_code
  | 4 => prog_5_method_1_code
  | 5 => prog_6_method_1_code
  | 6 => prog_3_method_1_code
  | _ => prog_9_method_1_code
def kLo (o : Nat) : Nat := match o with
  | 0 => 2
  | 1 => 1
  | 2 => 1
  | 3 => 1
  | 4 => 1
  | 5 => 1
  | 6 => 1
  | _ => 2
set_option maxRecDepth 20000 in
theorem ki_0 : Cond.instanceMethod Lib.objectInit ∈ WA := wa_t1 (i := 22) rfl rfl
set_option maxRecDepth 20000 in
theorem ki_1 : Cond.code Lib.objectInit ⟨#[0xb1]⟩ 1 none ∈ WA := wa_t1 (i := 23) rfl rfl
set_option maxRecDepth 20000 in
theorem ki_2 : Cond.methodLink "FiguredBass" 1 Lib.objectInit ∈ WA := wa_t1 (i := 21) rfl rfl
set_option maxRecDepth 20000 in
theorem ki_3 : Cond.classLink "FiguredBass" 7 "FiguredBass$Key" ∈ WA := wa_t1 (i := 24) rfl rfl
set_option maxRecDepth 20000 in
theorem ki_4 : Cond.fieldLink "FiguredBass" 10 "FiguredBass" "scale" "LFiguredBass$Key;" ∈ WA := wa_t1 (i := 217) rfl rfl
set_option maxRecDepth 20000 in
theorem ki_5 : Cond.fieldLink "FiguredBass" 18 "FiguredBass" "chords" "[LFiguredBass$Chord;" ∈ WA := wa_t1 (i := 218) rfl rfl
set_option maxRecDepth 20000 in
theorem ki_6 : Cond.classLink "FiguredBass" 22 "FiguredBass$Realisation" ∈ WA := wa_t1 (i := 41) rfl rfl
set_option maxRecDepth 20000 in
theorem ki_7 : Cond.fieldLink "FiguredBass" 25 "FiguredBass" "realisation" "LFiguredBass$Realisation;" ∈ WA := wa_t1 (i := 219) rfl rfl
set_option maxRecDepth 20000 in
theorem ki_8 : Cond.classLink "FiguredBass" 29 "FiguredBass$Examination" ∈ WA := wa_t1 (i := 98) rfl rfl
set_option maxRecDepth 20000 in
theorem ki_9 : Cond.fieldLink "FiguredBass" 32 "FiguredBass" "examination" "LFiguredBass$Examination;" ∈ WA := wa_t1 (i := 220) rfl rfl
set_option maxRecDepth 20000 in
theorem ki_10 : Cond.fieldLink "FiguredBass" 36 "FiguredBass" "counting" "I" ∈ WA := wa_t1 (i := 221) rfl rfl
set_option maxRecDepth 20000 in
theorem ki_11 : Cond.classLink "FiguredBass" 16 "FiguredBass$Chord" ∈ WA := wa_t1 (i := 39) rfl rfl
set_option maxRecDepth 20000 in
theorem ki_12 : Cond.methodLink "FiguredBass$Key" 3 Lib.objectInit ∈ WA := wa_t1 (i := 29) rfl rfl
set_option maxRecDepth 20000 in
theorem ki_13 : Cond.fieldLink "FiguredBass$Key" 9 "FiguredBass$Key" "alterations" "[I" ∈ WA := wa_t1 (i := 30) rfl rfl
set_option maxRecDepth 20000 in
theorem ki_14 : Cond.fieldLink "FiguredBass$Key" 15 "FiguredBass$Key" "leadingClass" "I" ∈ WA := wa_t1 (i := 31) rfl rfl
set_option maxRecDepth 20000 in
theorem ki_15 : Cond.methodLink "FiguredBass$Row" 3 Lib.objectInit ∈ WA := wa_t1 (i := 133) rfl rfl
set_option maxRecDepth 20000 in
theorem ki_16 : Cond.fieldLink "FiguredBass$Row" 9 "FiguredBass$Row" "numbers" "[I" ∈ WA := wa_t1 (i := 134) rfl rfl
set_option maxRecDepth 20000 in
theorem ki_17 : Cond.fieldLink "FiguredBass$Row" 15 "FiguredBass$Row" "signs" "[I" ∈ WA := wa_t1 (i := 136) rfl rfl
set_option maxRecDepth 20000 in
theorem ki_18 : Cond.methodLink "FiguredBass$Chord" 3 Lib.objectInit ∈ WA := wa_t1 (i := 127) rfl rfl
set_option maxRecDepth 20000 in
theorem ki_19 : Cond.classLink "FiguredBass$Chord" 9 "FiguredBass$Row" ∈ WA := wa_t1 (i := 128) rfl rfl
set_option maxRecDepth 20000 in
theorem ki_20 : Cond.fieldLink "FiguredBass$Chord" 12 "FiguredBass$Chord" "written" "LFiguredBass$Row;" ∈ WA := wa_t1 (i := 148) rfl rfl
set_option maxRecDepth 20000 in
theorem ki_21 : Cond.fieldLink "FiguredBass$Chord" 18 "FiguredBass$Chord" "full" "LFiguredBass$Row;" ∈ WA := wa_t1 (i := 150) rfl rfl
set_option maxRecDepth 20000 in
theorem ki_22 : Cond.fieldLink "FiguredBass$Chord" 21 "FiguredBass$Chord" "letters" "[I" ∈ WA := wa_t1 (i := 151) rfl rfl
set_option maxRecDepth 20000 in
theorem ki_23 : Cond.fieldLink "FiguredBass$Chord" 25 "FiguredBass$Chord" "classes" "[I" ∈ WA := wa_t1 (i := 153) rfl rfl
set_option maxRecDepth 20000 in
theorem ki_24 : Cond.fieldLink "FiguredBass$Chord" 28 "FiguredBass$Chord" "letterOfClass" "[I" ∈ WA := wa_t1 (i := 156) rfl rfl
set_option maxRecDepth 20000 in
theorem ki_25 : Cond.fieldLink "FiguredBass$Chord" 31 "FiguredBass$Chord" "placed" "[I" ∈ WA := wa_t1 (i := 157) rfl rfl
set_option maxRecDepth 20000 in
theorem ki_26 : Cond.fieldLink "FiguredBass$Chord" 34 "FiguredBass$Chord" "pupilSounds" "[I" ∈ WA := wa_t1 (i := 158) rfl rfl
set_option maxRecDepth 20000 in
theorem ki_27 : Cond.fieldLink "FiguredBass$Chord" 37 "FiguredBass$Chord" "bassSound" "I" ∈ WA := wa_t1 (i := 162) rfl rfl
set_option maxRecDepth 20000 in
theorem ki_28 : Cond.fieldLink "FiguredBass$Chord" 41 "FiguredBass$Chord" "optionalTone" "I" ∈ WA := wa_t1 (i := 166) rfl rfl
set_option maxRecDepth 20000 in
theorem ki_29 : Cond.fieldLink "FiguredBass$Chord" 44 "FiguredBass$Chord" "seventhClass" "I" ∈ WA := wa_t1 (i := 171) rfl rfl
set_option maxRecDepth 20000 in
theorem ki_30 : Cond.fieldLink "FiguredBass$Chord" 47 "FiguredBass$Chord" "thirdClass" "I" ∈ WA := wa_t1 (i := 173) rfl rfl
set_option maxRecDepth 20000 in
theorem ki_31 : Cond.methodLink "FiguredBass$Move" 3 Lib.objectInit ∈ WA := wa_t1 (i := 52) rfl rfl
set_option maxRecDepth 20000 in
theorem ki_32 : Cond.fieldLink "FiguredBass$Move" 9 "FiguredBass$Move" "from" "[I" ∈ WA := wa_t1 (i := 53) rfl rfl
set_option maxRecDepth 20000 in
theorem ki_33 : Cond.fieldLink "FiguredBass$Move" 15 "FiguredBass$Move" "to" "[I" ∈ WA := wa_t1 (i := 54) rfl rfl
set_option maxRecDepth 20000 in
theorem ki_34 : Cond.fieldLink "FiguredBass$Move" 18 "FiguredBass$Move" "fromLetters" "[I" ∈ WA := wa_t1 (i := 55) rfl rfl
set_option maxRecDepth 20000 in
theorem ki_35 : Cond.fieldLink "FiguredBass$Move" 21 "FiguredBass$Move" "toLetters" "[I" ∈ WA := wa_t1 (i := 56) rfl rfl
set_option maxRecDepth 20000 in
theorem ki_36 : Cond.methodLink "FiguredBass$Realisation" 3 Lib.objectInit ∈ WA := wa_t1 (i := 46) rfl rfl
set_option maxRecDepth 20000 in
theorem ki_37 : Cond.classLink "FiguredBass$Realisation" 9 "FiguredBass$Move" ∈ WA := wa_t1 (i := 47) rfl rfl
set_option maxRecDepth 20000 in
theorem ki_38 : Cond.fieldLink "FiguredBass$Realisation" 12 "FiguredBass$Realisation" "move" "LFiguredBass$Move;" ∈ WA := wa_t1 (i := 74) rfl rfl
set_option maxRecDepth 20000 in
theorem ki_39 : Cond.fieldLink "FiguredBass$Realisation" 22 "FiguredBass$Realisation" "costToEnd" "[[I" ∈ WA := wa_t1 (i := 75) rfl rfl
set_option maxRecDepth 20000 in
theorem ki_40 : Cond.fieldLink "FiguredBass$Realisation" 25 "FiguredBass$Realisation" "following" "[[I" ∈ WA := wa_t1 (i := 76) rfl rfl
set_option maxRecDepth 20000 in
theorem ki_41 : Cond.fieldLink "FiguredBass$Realisation" 28 "FiguredBass$Realisation" "reached" "[Z" ∈ WA := wa_t1 (i := 77) rfl rfl
set_option maxRecDepth 20000 in
theorem ki_42 : Cond.fieldLink "FiguredBass$Realisation" 32 "FiguredBass$Realisation" "reachedNext" "[Z" ∈ WA := wa_t1 (i := 78) rfl rfl
set_option maxRecDepth 20000 in
theorem ki_43 : Cond.fieldLink "FiguredBass$Realisation" 35 "FiguredBass$Realisation" "chosen" "[I" ∈ WA := wa_t1 (i := 79) rfl rfl
set_option maxRecDepth 20000 in
theorem ki_44 : Cond.methodLink "FiguredBass$Examination" 3 Lib.objectInit ∈ WA := wa_t1 (i := 103) rfl rfl
set_option maxRecDepth 20000 in
theorem ki_45 : Cond.classLink "FiguredBass$Examination" 9 "FiguredBass$Move" ∈ WA := wa_t1 (i := 104) rfl rfl
set_option maxRecDepth 20000 in
theorem ki_46 : Cond.fieldLink "FiguredBass$Examination" 12 "FiguredBass$Examination" "move" "LFiguredBass$Move;" ∈ WA := wa_t1 (i := 106) rfl rfl
set_option maxRecDepth 20000 in
theorem ki_47 : Cond.fieldLink "FiguredBass$Examination" 18 "FiguredBass$Examination" "where" "[I" ∈ WA := wa_t1 (i := 107) rfl rfl
set_option maxRecDepth 20000 in
theorem ki_48 : Cond.fieldLink "FiguredBass$Examination" 22 "FiguredBass$Examination" "kinds" "[I" ∈ WA := wa_t1 (i := 108) rfl rfl
set_option maxRecDepth 20000 in
theorem ki_49 : Cond.fieldLink "FiguredBass$Examination" 25 "FiguredBass$Examination" "voices" "[I" ∈ WA := wa_t1 (i := 109) rfl rfl
set_option maxRecDepth 20000 in
theorem ki_50 : Cond.methodLink "FiguredBassModel" 1 Lib.objectInit ∈ WA := wa_t4 (i := 18) rfl rfl
set_option maxRecDepth 20000 in
theorem ki_51 : Cond.fieldLink "FiguredBassModel" 7 "FiguredBassModel" "bases" "[I" ∈ WA := wa_t4 (i := 20) rfl rfl
set_option maxRecDepth 20000 in
theorem ki_52 : Cond.fieldLink "FiguredBassModel" 13 "FiguredBassModel" "sharps" "[I" ∈ WA := wa_t4 (i := 21) rfl rfl
set_option maxRecDepth 20000 in
theorem ki_53 : Cond.fieldLink "FiguredBassModel" 16 "FiguredBassModel" "lows" "[I" ∈ WA := wa_t4 (i := 22) rfl rfl
set_option maxRecDepth 20000 in
theorem ki_54 : Cond.fieldLink "FiguredBassModel" 19 "FiguredBassModel" "highs" "[I" ∈ WA := wa_t4 (i := 23) rfl rfl
set_option maxRecDepth 20000 in
theorem ki_55 : Cond.fieldLink "FiguredBassModel" 22 "FiguredBassModel" "n" "I" ∈ WA := wa_t4 (i := 26) rfl rfl
set_option maxRecDepth 20000 in
theorem ki_56 : Cond.fieldLink "FiguredBassModel" 26 "FiguredBassModel" "basses" "[I" ∈ WA := wa_t4 (i := 27) rfl rfl
set_option maxRecDepth 20000 in
theorem ki_57 : Cond.fieldLink "FiguredBassModel" 29 "FiguredBassModel" "letters" "[I" ∈ WA := wa_t4 (i := 28) rfl rfl
set_option maxRecDepth 20000 in
theorem ki_58 : Cond.fieldLink "FiguredBassModel" 32 "FiguredBassModel" "alterations" "[I" ∈ WA := wa_t4 (i := 29) rfl rfl
set_option maxRecDepth 20000 in
theorem ki_59 : Cond.fieldLink "FiguredBassModel" 35 "FiguredBassModel" "many" "[I" ∈ WA := wa_t4 (i := 30) rfl rfl
set_option maxRecDepth 20000 in
theorem ki_60 : Cond.fieldLink "FiguredBassModel" 38 "FiguredBassModel" "numbers" "[I" ∈ WA := wa_t4 (i := 31) rfl rfl
set_option maxRecDepth 20000 in
theorem ki_61 : Cond.fieldLink "FiguredBassModel" 41 "FiguredBassModel" "signs" "[I" ∈ WA := wa_t4 (i := 32) rfl rfl
set_option maxRecDepth 20000 in
theorem ki_62 : Cond.fieldLink "FiguredBassModel" 44 "FiguredBassModel" "row" "[I" ∈ WA := wa_t4 (i := 34) rfl rfl
set_option maxRecDepth 20000 in
theorem ki_63 : Cond.fieldLink "FiguredBassModel" 47 "FiguredBassModel" "rowSigns" "[I" ∈ WA := wa_t4 (i := 35) rfl rfl
set_option maxRecDepth 20000 in
theorem ki_64 : Cond.fieldLink "FiguredBassModel" 50 "FiguredBassModel" "toneLetters" "[I" ∈ WA := wa_t4 (i := 37) rfl rfl
set_option maxRecDepth 20000 in
theorem ki_65 : Cond.fieldLink "FiguredBassModel" 53 "FiguredBassModel" "toneClasses" "[I" ∈ WA := wa_t4 (i := 38) rfl rfl
set_option maxRecDepth 20000 in
theorem ki_66 : Cond.fieldLink "FiguredBassModel" 56 "FiguredBassModel" "letterOf" "[I" ∈ WA := wa_t4 (i := 42) rfl rfl
set_option maxRecDepth 20000 in
theorem ki_67 : Cond.fieldLink "FiguredBassModel" 59 "FiguredBassModel" "sevenths" "[I" ∈ WA := wa_t4 (i := 43) rfl rfl
set_option maxRecDepth 20000 in
theorem ki_68 : Cond.fieldLink "FiguredBassModel" 62 "FiguredBassModel" "thirds" "[I" ∈ WA := wa_t4 (i := 44) rfl rfl
set_option maxRecDepth 20000 in
theorem ki_69 : Cond.fieldLink "FiguredBassModel" 65 "FiguredBassModel" "counts" "[I" ∈ WA := wa_t4 (i := 45) rfl rfl
set_option maxRecDepth 20000 in
theorem ki_70 : Cond.fieldLink "FiguredBassModel" 68 "FiguredBassModel" "first" "[I" ∈ WA := wa_t4 (i := 46) rfl rfl
set_option maxRecDepth 20000 in
theorem ki_71 : Cond.fieldLink "FiguredBassModel" 71 "FiguredBassModel" "second" "[I" ∈ WA := wa_t4 (i := 47) rfl rfl
set_option maxRecDepth 20000 in
theorem ki_72 : Cond.fieldLink "FiguredBassModel" 74 "FiguredBassModel" "last" "[I" ∈ WA := wa_t4 (i := 48) rfl rfl
set_option maxRecDepth 20000 in
theorem ki_73 : Cond.fieldLink "FiguredBassModel" 77 "FiguredBassModel" "onward" "[I" ∈ WA := wa_t4 (i := 49) rfl rfl
set_option maxRecDepth 20000 in
theorem ki_74 : Cond.fieldLink "FiguredBassModel" 80 "FiguredBassModel" "reached" "[Z" ∈ WA := wa_t4 (i := 50) rfl rfl
set_option maxRecDepth 20000 in
theorem ki_75 : Cond.fieldLink "FiguredBassModel" 84 "FiguredBassModel" "laidSounds" "[I" ∈ WA := wa_t4 (i := 52) rfl rfl
set_option maxRecDepth 20000 in
theorem ki_76 : Cond.fieldLink "FiguredBassModel" 87 "FiguredBassModel" "laidCosts" "[I" ∈ WA := wa_t4 (i := 53) rfl rfl
set_option maxRecDepth 20000 in
theorem ki_77 : Cond.fieldLink "FiguredBassModel" 90 "FiguredBassModel" "pupils" "[I" ∈ WA := wa_t4 (i := 54) rfl rfl
set_option maxRecDepth 20000 in
theorem ki_78 : Cond.fieldLink "FiguredBassModel" 93 "FiguredBassModel" "foundChord" "[I" ∈ WA := wa_t4 (i := 56) rfl rfl
set_option maxRecDepth 20000 in
theorem ki_79 : Cond.fieldLink "FiguredBassModel" 96 "FiguredBassModel" "foundKind" "[I" ∈ WA := wa_t4 (i := 57) rfl rfl
set_option maxRecDepth 20000 in
theorem ki_80 : Cond.fieldLink "FiguredBassModel" 99 "FiguredBassModel" "foundVoices" "[I" ∈ WA := wa_t4 (i := 58) rfl rfl
set_option maxRecDepth 20000 in
theorem ki_81 : Cond.fieldLink "FiguredBassModel" 102 "FiguredBassModel" "from" "[I" ∈ WA := wa_t4 (i := 59) rfl rfl
set_option maxRecDepth 20000 in
theorem ki_82 : Cond.fieldLink "FiguredBassModel" 105 "FiguredBassModel" "to" "[I" ∈ WA := wa_t4 (i := 60) rfl rfl
def kT (o : Nat) : List (Nat × Instr × Nat) := match o with
  | 0 => [(0, .aload_n 0, 1), (1, .invokespecial 1, 3), (4, .aload_n 0, 1), (5, .new 7, 3), (8, .dup, 1), (9, .invokespecial 9, 3), (12, .putfield 10, 3), (15, .aload_n 0, 1), (16, .bipush 8, 2), (18, .anewarray 16, 3), (21, .putfield 18, 3), (24, .aload_n 0, 1), (25, .new 22, 3), (28, .dup, 1), (29, .invokespecial 24, 3), (32, .putfield 25, 3), (35, .aload_n 0, 1), (36, .new 29, 3), (39, .dup, 1), (40, .invokespecial 31, 3), (43, .putfield 32, 3), (46, .aload_n 0, 1), (47, .iconst 1, 1), (48, .putfield 36, 3), (51, .iconst 0, 1), (52, .istore_n 1, 1), (53, .iload_n 1, 1), (54, .bipush 8, 2), (56, .if_icmp .ge 22, 3), (59, .aload_n 0, 1), (60, .getfield 18, 3), (63, .iload_n 1, 1), (64, .new 16, 3), (67, .dup, 1), (68, .invokespecial 40, 3), (71, .aastore, 1), (72, .iinc 1 1, 3), (75, .goto (-22), 3), (78, .return_, 1)]
  | 1 => [(0, .aload_n 0, 1), (1, .invokespecial 3, 3), (4, .aload_n 0, 1), (5, .bipush 7, 2), (7, .newarray .int, 2), (9, .putfield 9, 3), (12, .aload_n 0, 1), (13, .bipush 11, 2), (15, .putfield 15, 3), (18, .return_, 1)]
  | 2 => [(0, .aload_n 0, 1), (1, .invokespecial 3, 3), (4, .aload_n 0, 1), (5, .iconst 3, 1), (6, .newarray .int, 2), (8, .putfield 9, 3), (11, .aload_n 0, 1), (12, .iconst 3, 1), (13, .newarray .int, 2), (15, .putfield 15, 3), (18, .return_, 1)]
  | 3 => [(0, .aload_n 0, 1), (1, .invokespecial 3, 3), (4, .aload_n 0, 1), (5, .new 9, 3), (8, .dup, 1), (9, .invokespecial 11, 3), (12, .putfield 12, 3), (15, .aload_n 0, 1), (16, .new 9, 3), (19, .dup, 1), (20, .invokespecial 11, 3), (23, .putfield 18, 3), (26, .aload_n 0, 1), (27, .iconst 4, 1), (28, .newarray .int, 2), (30, .putfield 21, 3), (33, .aload_n 0, 1), (34, .iconst 4, 1), (35, .newarray .int, 2), (37, .putfield 25, 3), (40, .aload_n 0, 1), (41, .bipush 12, 2), (43, .newarray .int, 2), (45, .putfield 28, 3), (48, .aload_n 0, 1), (49, .sipush 192, 3), (52, .newarray .int, 2), (54, .putfield 31, 3), (57, .aload_n 0, 1), (58, .iconst 3, 1), (59, .newarray .int, 2), (61, .dup, 1), (62, .iconst 0, 1), (63, .bipush 60, 2), (65, .iastore, 1), (66, .dup, 1), (67, .iconst 1, 1), (68, .bipush 60, 2), (70, .iastore, 1), (71, .dup, 1), (72, .iconst 2, 1), (73, .bipush 60, 2), (75, .iastore, 1), (76, .putfield 34, 3), (79, .aload_n 0, 1), (80, .iconst (-1), 1), (81, .putfield 37, 3), (84, .aload_n 0, 1), (85, .iconst (-1), 1), (86, .putfield 41, 3), (89, .aload_n 0, 1), (90, .iconst (-1), 1), (91, .putfield 44, 3), (94, .aload_n 0, 1), (95, .iconst (-1), 1), (96, .putfield 47, 3), (99, .return_, 1)]
  | 4 => [(0, .aload_n 0, 1), (1, .invokespecial 3, 3), (4, .aload_n 0, 1), (5, .iconst 4, 1), (6, .newarray .int, 2), (8, .putfield 9, 3), (11, .aload_n 0, 1), (12, .iconst 4, 1), (13, .newarray .int, 2), (15, .putfield 15, 3), (18, .aload_n 0, 1), (19, .iconst 4, 1), (20, .newarray .int, 2), (22, .putfield 18, 3), (25, .aload_n 0, 1), (26, .iconst 4, 1), (27, .newarray .int, 2), (29, .putfield 21, 3), (32, .return_, 1)]
  | 5 => [(0, .aload_n 0, 1), (1, .invokespecial 3, 3), (4, .aload_n 0, 1), (5, .new 9, 3), (8, .dup, 1), (9, .invokespecial 11, 3), (12, .putfield 12, 3), (15, .aload_n 0, 1), (16, .bipush 8, 2), (18, .bipush 64, 2), (20, .multianewarray 20 2, 4), (24, .putfield 22, 3), (27, .aload_n 0, 1), (28, .bipush 8, 2), (30, .bipush 64, 2), (32, .multianewarray 20 2, 4), (36, .putfield 25, 3), (39, .aload_n 0, 1), (40, .bipush 64, 2), (42, .newarray .boolean, 2), (44, .putfield 28, 3), (47, .aload_n 0, 1), (48, .bipush 64, 2), (50, .newarray .boolean, 2), (52, .putfield 32, 3), (55, .aload_n 0, 1), (56, .bipush 8, 2), (58, .newarray .int, 2), (60, .putfield 35, 3), (63, .return_, 1)]
  | 6 => [(0, .aload_n 0, 1), (1, .invokespecial 3, 3), (4, .aload_n 0, 1), (5, .new 9, 3), (8, .dup, 1), (9, .invokespecial 11, 3), (12, .putfield 12, 3), (15, .aload_n 0, 1), (16, .sipush 240, 3), (19, .newarray .int, 2), (21, .putfield 18, 3), (24, .aload_n 0, 1), (25, .sipush 240, 3), (28, .newarray .int, 2), (30, .putfield 22, 3), (33, .aload_n 0, 1), (34, .sipush 240, 3), (37, .newarray .int, 2), (39, .putfield 25, 3), (42, .return_, 1)]
  | _ => [(0, .aload_n 0, 1), (1, .invokespecial 1, 3), (4, .aload_n 0, 1), (5, .bipush 7, 2), (7, .newarray .int, 2), (9, .dup, 1), (10, .iconst 0, 1), (11, .iconst 0, 1), (12, .iastore, 1), (13, .dup, 1), (14, .iconst 1, 1), (15, .iconst 2, 1), (16, .iastore, 1), (17, .dup, 1), (18, .iconst 2, 1), (19, .iconst 4, 1), (20, .iastore, 1), (21, .dup, 1), (22, .iconst 3, 1), (23, .iconst 5, 1), (24, .iastore, 1), (25, .dup, 1), (26, .iconst 4, 1), (27, .bipush 7, 2), (29, .iastore, 1), (30, .dup, 1), (31, .iconst 5, 1), (32, .bipush 9, 2), (34, .iastore, 1), (35, .dup, 1), (36, .bipush 6, 2), (38, .bipush 11, 2), (40, .iastore, 1), (41, .putfield 7, 3), (44, .aload_n 0, 1), (45, .bipush 7, 2), (47, .newarray .int, 2), (49, .dup, 1), (50, .iconst 0, 1), (51, .iconst 3, 1), (52, .iastore, 1), (53, .dup, 1), (54, .iconst 1, 1), (55, .iconst 0, 1), (56, .iastore, 1), (57, .dup, 1), (58, .iconst 2, 1), (59, .iconst 4, 1), (60, .iastore, 1), (61, .dup, 1), (62, .iconst 3, 1), (63, .iconst 1, 1), (64, .iastore, 1), (65, .dup, 1), (66, .iconst 4, 1), (67, .iconst 5, 1), (68, .iastore, 1), (69, .dup, 1), (70, .iconst 5, 1), (71, .iconst 2, 1), (72, .iastore, 1), (73, .dup, 1), (74, .bipush 6, 2), (76, .bipush 6, 2), (78, .iastore, 1), (79, .putfield 13, 3), (82, .aload_n 0, 1), (83, .iconst 3, 1), (84, .newarray .int, 2), (86, .dup, 1), (87, .iconst 0, 1), (88, .bipush 60, 2), (90, .iastore, 1), (91, .dup, 1), (92, .iconst 1, 1), (93, .bipush 55, 2), (95, .iastore, 1), (96, .dup, 1), (97, .iconst 2, 1), (98, .bipush 48, 2), (100, .iastore, 1), (101, .putfield 16, 3), (104, .aload_n 0, 1), (105, .iconst 3, 1), (106, .newarray .int, 2), (108, .dup, 1), (109, .iconst 0, 1), (110, .bipush 81, 2), (112, .iastore, 1), (113, .dup, 1), (114, .iconst 1, 1), (115, .bipush 74, 2), (117, .iastore, 1), (118, .dup, 1), (119, .iconst 2, 1), (120, .bipush 67, 2), (122, .iastore, 1), (123, .putfield 19, 3), (126, .aload_n 0, 1), (127, .iconst 1, 1), (128, .putfield 22, 3), (131, .aload_n 0, 1), (132, .bipush 8, 2), (134, .newarray .int, 2), (136, .putfield 26, 3), (139, .aload_n 0, 1), (140, .bipush 8, 2), (142, .newarray .int, 2), (144, .putfield 29, 3), (147, .aload_n 0, 1), (148, .bipush 8, 2), (150, .newarray .int, 2), (152, .putfield 32, 3), (155, .aload_n 0, 1), (156, .bipush 8, 2), (158, .newarray .int, 2), (160, .putfield 35, 3), (163, .aload_n 0, 1), (164, .bipush 24, 2), (166, .newarray .int, 2), (168, .putfield 38, 3), (171, .aload_n 0, 1), (172, .bipush 24, 2), (174, .newarray .int, 2), (176, .putfield 41, 3), (179, .aload_n 0, 1), (180, .iconst 4, 1), (181, .newarray .int, 2), (183, .putfield 44, 3), (186, .aload_n 0, 1), (187, .iconst 4, 1), (188, .newarray .int, 2), (190, .putfield 47, 3), (193, .aload_n 0, 1), (194, .iconst 4, 1), (195, .newarray .int, 2), (197, .putfield 50, 3), (200, .aload_n 0, 1), (201, .iconst 4, 1), (202, .newarray .int, 2), (204, .putfield 53, 3), (207, .aload_n 0, 1), (208, .bipush 96, 2), (210, .newarray .int, 2), (212, .putfield 56, 3), (215, .aload_n 0, 1), (216, .bipush 8, 2), (218, .newarray .int, 2), (220, .putfield 59, 3), (223, .aload_n 0, 1), (224, .bipush 8, 2), (226, .newarray .int, 2), (228, .putfield 62, 3), (231, .aload_n 0, 1), (232, .bipush 8, 2), (234, .newarray .int, 2), (236, .putfield 65, 3), (239, .aload_n 0, 1), (240, .sipush 3200, 3), (243, .newarray .int, 2), (245, .putfield 68, 3), (248, .aload_n 0, 1), (249, .sipush 3200, 3), (252, .newarray .int, 2), (254, .putfield 71, 3), (257, .aload_n 0, 1), (258, .sipush 3200, 3), (261, .newarray .int, 2), (263, .putfield 74, 3), (266, .aload_n 0, 1), (267, .sipush 3200, 3), (270, .newarray .int, 2), (272, .putfield 77, 3), (275, .aload_n 0, 1), (276, .sipush 3200, 3), (279, .newarray .boolean, 2), (281, .putfield 80, 3), (284, .aload_n 0, 1), (285, .bipush 32, 2), (287, .newarray .int, 2), (289, .putfield 84, 3), (292, .aload_n 0, 1), (293, .bipush 8, 2), (295, .newarray .int, 2), (297, .putfield 87, 3), (300, .aload_n 0, 1), (301, .bipush 24, 2), (303, .newarray .int, 2), (305, .putfield 90, 3), (308, .aload_n 0, 1), (309, .sipush 300, 3), (312, .newarray .int, 2), (314, .putfield 93, 3), (317, .aload_n 0, 1), (318, .sipush 300, 3), (321, .newarray .int, 2), (323, .putfield 96, 3), (326, .aload_n 0, 1), (327, .sipush 300, 3), (330, .newarray .int, 2), (332, .putfield 99, 3), (335, .aload_n 0, 1), (336, .iconst 4, 1), (337, .newarray .int, 2), (339, .putfield 102, 3), (342, .aload_n 0, 1), (343, .iconst 4, 1), (344, .newarray .int, 2), (346, .putfield 105, 3), (349, .iconst 0, 1), (350, .istore_n 1, 1), (351, .iload_n 1, 1), (352, .bipush 24, 2), (354, .if_icmp .ge 17, 3), (357, .aload_n 0, 1), (358, .getfield 90, 3), (361, .iload_n 1, 1), (362, .bipush 60, 2), (364, .iastore, 1), (365, .iinc 1 1, 3), (368, .goto (-17), 3), (371, .return_, 1)]
theorem kd_0 : ∀ x ∈ kT 0, decode (kB 0) x.1 = .ok (x.2.1, x.2.2) := by decide +kernel
theorem kd_1 : ∀ x ∈ kT 1, decode (kB 1) x.1 = .ok (x.2.1, x.2.2) := by decide +kernel
theorem kd_2 : ∀ x ∈ kT 2, decode (kB 2) x.1 = .ok (x.2.1, x.2.2) := by decide +kernel
theorem kd_3 : ∀ x ∈ kT 3, decode (kB 3) x.1 = .ok (x.2.1, x.2.2) := by decide +kernel
theorem kd_4 : ∀ x ∈ kT 4, decode (kB 4) x.1 = .ok (x.2.1, x.2.2) := by decide +kernel
theorem kd_5 : ∀ x ∈ kT 5, decode (kB 5) x.1 = .ok (x.2.1, x.2.2) := by decide +kernel
theorem kd_6 : ∀ x ∈ kT 6, decode (kB 6) x.1 = .ok (x.2.1, x.2.2) := by decide +kernel
theorem kd_7 : ∀ x ∈ kT 7, decode (kB 7) x.1 = .ok (x.2.1, x.2.2) := by decide +kernel
theorem kd {o : Nat} (h : o < 8) : ∀ x ∈ kT o, decode (kB o) x.1 = .ok (x.2.1, x.2.2) := by
  rcases (by omega : o = 0 ∨ o = 1 ∨ o = 2 ∨ o = 3 ∨ o = 4 ∨ o = 5 ∨ o = 6 ∨ o = 7) with rfl | rfl | rfl | rfl | rfl | rfl | rfl | rfl
  · exact kd_0
  · exact kd_1
  · exact kd_2
  · exact kd_3
  · exact kd_4
  · exact kd_5
  · exact kd_6
  · exact kd_7
def kI2 (o pc : Nat) : Option (Instr × Nat) := ((kT o).find? fun x => x.1 == pc).map fun x => x.2
theorem kI2_ok {o pc len : Nat} {i : Instr} (h : o < 8) (hi : kI2 o pc = some (i, len)) : decode (kB o) pc = .ok (i, len) := by
  unfold kI2 at hi
  cases hf : (kT o).find? (fun x => x.1 == pc) with
  | none => rw [hf] at hi; cases hi
  | some x =>
    rw [hf] at hi
    have h1 := List.find?_some hf
    have h1 : (x.1 == pc) = true := h1
    have h2 := kd h x (List.mem_of_find?_eq_some hf)
    obtain ⟨a, b, c⟩ := x
    cases hi
    have h3 : a = pc := beq_iff_eq.mp h1
    subst h3
    exact h2
set_option maxRecDepth 20000 in
theorem ki_83 : Cond.code (kY 0) (kB 0) (kLo 0) none ∈ WA := wa_t1 (i := 20) rfl rfl
set_option maxRecDepth 20000 in
theorem ki_84 : Cond.initialized (cN 0) ∈ WA := wa_t1 (i := 1) rfl rfl
set_option maxRecDepth 20000 in
theorem ki_85 : Cond.instanceMethod (kY 0) ∈ WA := wa_t1 (i := 19) rfl rfl
set_option maxRecDepth 20000 in
theorem ki_86 : Cond.instantiable (cN 0) (cn 0) ∈ WA := wa_t1 (i := 17) rfl rfl
set_option maxRecDepth 20000 in
theorem ki_87 : Cond.code (kY 1) (kB 1) (kLo 1) none ∈ WA := wa_t1 (i := 28) rfl rfl
set_option maxRecDepth 20000 in
theorem ki_88 : Cond.initialized (cN 1) ∈ WA := wa_t1 (i := 2) rfl rfl
set_option maxRecDepth 20000 in
theorem ki_89 : Cond.instanceMethod (kY 1) ∈ WA := wa_t1 (i := 27) rfl rfl
set_option maxRecDepth 20000 in
theorem ki_90 : Cond.instantiable (cN 1) (cn 1) ∈ WA := wa_t1 (i := 25) rfl rfl
set_option maxRecDepth 20000 in
theorem ki_91 : Cond.code (kY 2) (kB 2) (kLo 2) none ∈ WA := wa_t1 (i := 132) rfl rfl
set_option maxRecDepth 20000 in
theorem ki_92 : Cond.initialized (cN 2) ∈ WA := wa_t1 (i := 7) rfl rfl
set_option maxRecDepth 20000 in
theorem ki_93 : Cond.instanceMethod (kY 2) ∈ WA := wa_t1 (i := 131) rfl rfl
set_option maxRecDepth 20000 in
theorem ki_94 : Cond.instantiable (cN 2) (cn 2) ∈ WA := wa_t1 (i := 129) rfl rfl
set_option maxRecDepth 20000 in
theorem ki_95 : Cond.code (kY 3) (kB 3) (kLo 3) none ∈ WA := wa_t1 (i := 126) rfl rfl
set_option maxRecDepth 20000 in
theorem ki_96 : Cond.initialized (cN 3) ∈ WA := wa_t1 (i := 6) rfl rfl
set_option maxRecDepth 20000 in
theorem ki_97 : Cond.instanceMethod (kY 3) ∈ WA := wa_t1 (i := 125) rfl rfl
set_option maxRecDepth 20000 in
theorem ki_98 : Cond.instantiable (cN 3) (cn 3) ∈ WA := wa_t1 (i := 123) rfl rfl
set_option maxRecDepth 20000 in
theorem ki_99 : Cond.code (kY 4) (kB 4) (kLo 4) none ∈ WA := wa_t1 (i := 51) rfl rfl
set_option maxRecDepth 20000 in
theorem ki_100 : Cond.initialized (cN 4) ∈ WA := wa_t1 (i := 4) rfl rfl
set_option maxRecDepth 20000 in
theorem ki_101 : Cond.instanceMethod (kY 4) ∈ WA := wa_t1 (i := 50) rfl rfl
set_option maxRecDepth 20000 in
theorem ki_102 : Cond.instantiable (cN 4) (cn 4) ∈ WA := wa_t1 (i := 48) rfl rfl
set_option maxRecDepth 20000 in
theorem ki_103 : Cond.code (kY 5) (kB 5) (kLo 5) none ∈ WA := wa_t1 (i := 45) rfl rfl
set_option maxRecDepth 20000 in
theorem ki_104 : Cond.initialized (cN 5) ∈ WA := wa_t1 (i := 3) rfl rfl
set_option maxRecDepth 20000 in
theorem ki_105 : Cond.instanceMethod (kY 5) ∈ WA := wa_t1 (i := 44) rfl rfl
set_option maxRecDepth 20000 in
theorem ki_106 : Cond.instantiable (cN 5) (cn 5) ∈ WA := wa_t1 (i := 42) rfl rfl
set_option maxRecDepth 20000 in
theorem ki_107 : Cond.code (kY 6) (kB 6) (kLo 6) none ∈ WA := wa_t1 (i := 102) rfl rfl
set_option maxRecDepth 20000 in
theorem ki_108 : Cond.initialized (cN 6) ∈ WA := wa_t1 (i := 5) rfl rfl
set_option maxRecDepth 20000 in
theorem ki_109 : Cond.instanceMethod (kY 6) ∈ WA := wa_t1 (i := 101) rfl rfl
set_option maxRecDepth 20000 in
theorem ki_110 : Cond.instantiable (cN 6) (cn 6) ∈ WA := wa_t1 (i := 99) rfl rfl
set_option maxRecDepth 20000 in
theorem ki_111 : Cond.code (kY 7) (kB 7) (kLo 7) none ∈ WA := wa_t4 (i := 17) rfl rfl
set_option maxRecDepth 20000 in
theorem ki_112 : Cond.initialized (cN 7) ∈ WA := wa_t1 (i := 8) rfl rfl
set_option maxRecDepth 20000 in
theorem ki_113 : Cond.instanceMethod (kY 7) ∈ WA := wa_t4 (i := 16) rfl rfl
set_option maxRecDepth 20000 in
theorem ki_114 : Cond.instantiable (cN 7) (cn 7) ∈ WA := wa_t4 (i := 14) rfl rfl
theorem kw {o : Nat} (h : o < 8) : Cond.code (kY o) (kB o) (kLo o) none ∈ WA ∧ Cond.initialized (cN o) ∈ WA ∧ Cond.instanceMethod (kY o) ∈ WA ∧ Cond.instantiable (cN o) (cn o) ∈ WA := by
  rcases (by omega : o = 0 ∨ o = 1 ∨ o = 2 ∨ o = 3 ∨ o = 4 ∨ o = 5 ∨ o = 6 ∨ o = 7) with rfl | rfl | rfl | rfl | rfl | rfl | rfl | rfl
  · exact ⟨ki_83, ki_84, ki_85, ki_86⟩
  · exact ⟨ki_87, ki_88, ki_89, ki_90⟩
  · exact ⟨ki_91, ki_92, ki_93, ki_94⟩
  · exact ⟨ki_95, ki_96, ki_97, ki_98⟩
  · exact ⟨ki_99, ki_100, ki_101, ki_102⟩
  · exact ⟨ki_103, ki_104, ki_105, ki_106⟩
  · exact ⟨ki_107, ki_108, ki_109, ki_110⟩
  · exact ⟨ki_111, ki_112, ki_113, ki_114⟩
theorem kw2 {o : Nat} (h : o < 8) : (cN o ≠ "java/lang/invoke/MethodHandle" ∧ cN o ≠ "java/lang/invoke/VarHandle") ∧ plainFor (kY o) = true ∧ 1 ≤ kLo o ∧ kLo o ≤ 2 := by
  rcases (by omega : o = 0 ∨ o = 1 ∨ o = 2 ∨ o = 3 ∨ o = 4 ∨ o = 5 ∨ o = 6 ∨ o = 7) with rfl | rfl | rfl | rfl | rfl | rfl | rfl | rfl <;> exact ⟨⟨by decide, by decide⟩, by decide, by decide, by decide⟩
def kobT : List (Nat × Nat × Nat) := [(0, 1, 0), (1, 3, 0), (2, 3, 0), (3, 3, 0), (4, 3, 0), (5, 3, 0), (6, 3, 0), (7, 1, 0)]
def kob (o i : Nat) : Option (Nat) := (kobT.find? fun q => q.1 == o && q.2.1 == i).map fun q => q.2.2
theorem kob_mem {o i : Nat} {w : Nat} (h : kob o i = some w) : (o, i, w) ∈ kobT := by
  unfold kob at h
  cases hf : kobT.find? (fun q => q.1 == o && q.2.1 == i) with
  | none => rw [hf] at h; cases h
  | some q =>
    rw [hf] at h
    obtain ⟨a, b, v⟩ := q
    have h1 := List.find?_some hf
    have h2 := List.mem_of_find?_eq_some hf
    simp only [Bool.and_eq_true, beq_iff_eq] at h1
    cases h
    rw [← h1.1, ← h1.2]
    exact h2
theorem kob_all : ∀ q ∈ kobT, Cond.methodLink (cN q.1) q.2.1 Lib.objectInit ∈ WA := List.forall_mem_cons.mpr ⟨ki_2, List.forall_mem_cons.mpr ⟨ki_12, List.forall_mem_cons.mpr ⟨ki_15, List.forall_mem_cons.mpr ⟨ki_18, List.forall_mem_cons.mpr ⟨ki_31, List.forall_mem_cons.mpr ⟨ki_36, List.forall_mem_cons.mpr ⟨ki_44, List.forall_mem_cons.mpr ⟨ki_50, fun _ h => absurd h List.not_mem_nil⟩⟩⟩⟩⟩⟩⟩⟩
def knwT : List (Nat × Nat × Nat) := [(0, 7, 1), (0, 22, 5), (0, 29, 6), (0, 16, 3), (3, 9, 2), (5, 9, 4), (6, 9, 4)]
def knw (o i : Nat) : Option (Nat) := (knwT.find? fun q => q.1 == o && q.2.1 == i).map fun q => q.2.2
theorem knw_mem {o i : Nat} {w : Nat} (h : knw o i = some w) : (o, i, w) ∈ knwT := by
  unfold knw at h
  cases hf : knwT.find? (fun q => q.1 == o && q.2.1 == i) with
  | none => rw [hf] at h; cases h
  | some q =>
    rw [hf] at h
    obtain ⟨a, b, v⟩ := q
    have h1 := List.find?_some hf
    have h2 := List.mem_of_find?_eq_some hf
    simp only [Bool.and_eq_true, beq_iff_eq] at h1
    cases h
    rw [← h1.1, ← h1.2]
    exact h2
theorem knw_all : ∀ q ∈ knwT, q.2.2 < 8 ∧ Cond.classLink (cN q.1) q.2.1 (cN q.2.2) ∈ WA := List.forall_mem_cons.mpr ⟨⟨by decide, ki_3⟩, List.forall_mem_cons.mpr ⟨⟨by decide, ki_6⟩, List.forall_mem_cons.mpr ⟨⟨by decide, ki_8⟩, List.forall_mem_cons.mpr ⟨⟨by decide, ki_11⟩, List.forall_mem_cons.mpr ⟨⟨by decide, ki_19⟩, List.forall_mem_cons.mpr ⟨⟨by decide, ki_37⟩, List.forall_mem_cons.mpr ⟨⟨by decide, ki_45⟩, fun _ h => absurd h List.not_mem_nil⟩⟩⟩⟩⟩⟩⟩
def kflT : List (Nat × Nat × Nat) := [(0, 10, 0), (0, 18, 1), (0, 25, 2), (0, 32, 3), (0, 36, 4), (1, 9, 0), (1, 15, 1), (2, 9, 0), (2, 15, 1), (3, 12, 0), (3, 18, 1), (3, 21, 2), (3, 25, 3), (3, 28, 4), (3, 31, 5), (3, 34, 6), (3, 37, 9), (3, 41, 11), (3, 44, 13), (3, 47, 14), (4, 9, 0), (4, 15, 1), (4, 18, 2), (4, 21, 3), (5, 12, 0), (5, 22, 1), (5, 25, 2), (5, 28, 3), (5, 32, 4), (5, 35, 5), (6, 12, 0), (6, 18, 1), (6, 22, 2), (6, 25, 3), (7, 7, 1), (7, 13, 2), (7, 16, 3), (7, 19, 4), (7, 22, 7), (7, 26, 8), (7, 29, 9), (7, 32, 10), (7, 35, 11), (7, 38, 12), (7, 41, 13), (7, 44, 15), (7, 47, 16), (7, 50, 18), (7, 53, 19), (7, 56, 23), (7, 59, 24), (7, 62, 25), (7, 65, 26), (7, 68, 27), (7, 71, 28), (7, 74, 29), (7, 77, 30), (7, 80, 31), (7, 84, 33), (7, 87, 34), (7, 90, 35), (7, 93, 37), (7, 96, 38), (7, 99, 39), (7, 102, 40), (7, 105, 41)]
def kfl (o i : Nat) : Option (Nat) := (kflT.find? fun q => q.1 == o && q.2.1 == i).map fun q => q.2.2
theorem kfl_mem {o i : Nat} {w : Nat} (h : kfl o i = some w) : (o, i, w) ∈ kflT := by
  unfold kfl at h
  cases hf : kflT.find? (fun q => q.1 == o && q.2.1 == i) with
  | none => rw [hf] at h; cases h
  | some q =>
    rw [hf] at h
    obtain ⟨a, b, v⟩ := q
    have h1 := List.find?_some hf
    have h2 := List.mem_of_find?_eq_some hf
    simp only [Bool.and_eq_true, beq_iff_eq] at h1
    cases h
    rw [← h1.1, ← h1.2]
    exact h2
theorem kfl_all : ∀ q ∈ kflT, q.2.2 < cn q.1 ∧ (cF q.1 q.2.2).1 = cN q.1 ∧ Cond.fieldLink (cN q.1) q.2.1 (cN q.1) (cF q.1 q.2.2).2.1 (cF q.1 q.2.2).2.2.1 ∈ WA := List.forall_mem_cons.mpr ⟨⟨by decide, rfl, ki_4⟩, List.forall_mem_cons.mpr ⟨⟨by decide, rfl, ki_5⟩, List.forall_mem_cons.mpr ⟨⟨by decide, rfl, ki_7⟩, List.forall_mem_cons.mpr ⟨⟨by decide, rfl, ki_9⟩, List.forall_mem_cons.mpr ⟨⟨by decide, rfl, ki_10⟩, List.forall_mem_cons.mpr ⟨⟨by decide, rfl, ki_13⟩, List.forall_mem_cons.mpr ⟨⟨by decide, rfl, ki_14⟩, List.forall_mem_cons.mpr ⟨⟨by decide, rfl, ki_16⟩, List.forall_mem_cons.mpr ⟨⟨by decide, rfl, ki_17⟩, List.forall_mem_cons.mpr ⟨⟨by decide, rfl, ki_20⟩, List.forall_mem_cons.mpr ⟨⟨by decide, rfl, ki_21⟩, List.forall_mem_cons.mpr ⟨⟨by decide, rfl, ki_22⟩, List.forall_mem_cons.mpr ⟨⟨by decide, rfl, ki_23⟩, List.forall_mem_cons.mpr ⟨⟨by decide, rfl, ki_24⟩, List.forall_mem_cons.mpr ⟨⟨by decide, rfl, ki_25⟩, List.forall_mem_cons.mpr ⟨⟨by decide, rfl, ki_26⟩, List.forall_mem_cons.mpr ⟨⟨by decide, rfl, ki_27⟩, List.forall_mem_cons.mpr ⟨⟨by decide, rfl, ki_28⟩, List.forall_mem_cons.mpr ⟨⟨by decide, rfl, ki_29⟩, List.forall_mem_cons.mpr ⟨⟨by decide, rfl, ki_30⟩, List.forall_mem_cons.mpr ⟨⟨by decide, rfl, ki_32⟩, List.forall_mem_cons.mpr ⟨⟨by decide, rfl, ki_33⟩, List.forall_mem_cons.mpr ⟨⟨by decide, rfl, ki_34⟩, List.forall_mem_cons.mpr ⟨⟨by decide, rfl, ki_35⟩, List.forall_mem_cons.mpr ⟨⟨by decide, rfl, ki_38⟩, List.forall_mem_cons.mpr ⟨⟨by decide, rfl, ki_39⟩, List.forall_mem_cons.mpr ⟨⟨by decide, rfl, ki_40⟩, List.forall_mem_cons.mpr ⟨⟨by decide, rfl, ki_41⟩, List.forall_mem_cons.mpr ⟨⟨by decide, rfl, ki_42⟩, List.forall_mem_cons.mpr ⟨⟨by decide, rfl, ki_43⟩, List.forall_mem_cons.mpr ⟨⟨by decide, rfl, ki_46⟩, List.forall_mem_cons.mpr ⟨⟨by decide, rfl, ki_47⟩, List.forall_mem_cons.mpr ⟨⟨by decide, rfl, ki_48⟩, List.forall_mem_cons.mpr ⟨⟨by decide, rfl, ki_49⟩, List.forall_mem_cons.mpr ⟨⟨by decide, rfl, ki_51⟩, List.forall_mem_cons.mpr ⟨⟨by decide, rfl, ki_52⟩, List.forall_mem_cons.mpr ⟨⟨by decide, rfl, ki_53⟩, List.forall_mem_cons.mpr ⟨⟨by decide, rfl, ki_54⟩, List.forall_mem_cons.mpr ⟨⟨by decide, rfl, ki_55⟩, List.forall_mem_cons.mpr ⟨⟨by decide, rfl, ki_56⟩, List.forall_mem_cons.mpr ⟨⟨by decide, rfl, ki_57⟩, List.forall_mem_cons.mpr ⟨⟨by decide, rfl, ki_58⟩, List.forall_mem_cons.mpr ⟨⟨by decide, rfl, ki_59⟩, List.forall_mem_cons.mpr ⟨⟨by decide, rfl, ki_60⟩, List.forall_mem_cons.mpr ⟨⟨by decide, rfl, ki_61⟩, List.forall_mem_cons.mpr ⟨⟨by decide, rfl, ki_62⟩, List.forall_mem_cons.mpr ⟨⟨by decide, rfl, ki_63⟩, List.forall_mem_cons.mpr ⟨⟨by decide, rfl, ki_64⟩, List.forall_mem_cons.mpr ⟨⟨by decide, rfl, ki_65⟩, List.forall_mem_cons.mpr ⟨⟨by decide, rfl, ki_66⟩, List.forall_mem_cons.mpr ⟨⟨by decide, rfl, ki_67⟩, List.forall_mem_cons.mpr ⟨⟨by decide, rfl, ki_68⟩, List.forall_mem_cons.mpr ⟨⟨by decide, rfl, ki_69⟩, List.forall_mem_cons.mpr ⟨⟨by decide, rfl, ki_70⟩, List.forall_mem_cons.mpr ⟨⟨by decide, rfl, ki_71⟩, List.forall_mem_cons.mpr ⟨⟨by decide, rfl, ki_72⟩, List.forall_mem_cons.mpr ⟨⟨by decide, rfl, ki_73⟩, List.forall_mem_cons.mpr ⟨⟨by decide, rfl, ki_74⟩, List.forall_mem_cons.mpr ⟨⟨by decide, rfl, ki_75⟩, List.forall_mem_cons.mpr ⟨⟨by decide, rfl, ki_76⟩, List.forall_mem_cons.mpr ⟨⟨by decide, rfl, ki_77⟩, List.forall_mem_cons.mpr ⟨⟨by decide, rfl, ki_78⟩, List.forall_mem_cons.mpr ⟨⟨by decide, rfl, ki_79⟩, List.forall_mem_cons.mpr ⟨⟨by decide, rfl, ki_80⟩, List.forall_mem_cons.mpr ⟨⟨by decide, rfl, ki_81⟩, List.forall_mem_cons.mpr ⟨⟨by decide, rfl, ki_82⟩, fun _ h => absurd h List.not_mem_nil⟩⟩⟩⟩⟩⟩⟩⟩⟩⟩⟩⟩⟩⟩⟩⟩⟩⟩⟩⟩⟩⟩⟩⟩⟩⟩⟩⟩⟩⟩⟩⟩⟩⟩⟩⟩⟩⟩⟩⟩⟩⟩⟩⟩⟩⟩⟩⟩⟩⟩⟩⟩⟩⟩⟩⟩⟩⟩⟩⟩⟩⟩⟩⟩⟩⟩
def NI : List Cond := [Cond.methodLinkNest "FiguredBass" 9 (kY 1) "FiguredBass", Cond.methodLinkNest "FiguredBass" 24 (kY 5) "FiguredBass", Cond.methodLinkNest "FiguredBass" 31 (kY 6) "FiguredBass", Cond.methodLinkNest "FiguredBass" 40 (kY 3) "FiguredBass", Cond.methodLinkNest "FiguredBass$Chord" 11 (kY 2) "FiguredBass", Cond.methodLinkNest "FiguredBass$Realisation" 11 (kY 4) "FiguredBass", Cond.methodLinkNest "FiguredBass$Examination" 11 (kY 4) "FiguredBass"]
def kinT : List (Nat × Nat × Nat) := [(0, 9, 1), (0, 24, 5), (0, 31, 6), (0, 40, 3), (3, 11, 2), (5, 11, 4), (6, 11, 4)]
def kin (o i : Nat) : Option (Nat) := (kinT.find? fun q => q.1 == o && q.2.1 == i).map fun q => q.2.2
theorem kin_mem {o i : Nat} {w : Nat} (h : kin o i = some w) : (o, i, w) ∈ kinT := by
  unfold kin at h
  cases hf : kinT.find? (fun q => q.1 == o && q.2.1 == i) with
  | none => rw [hf] at h; cases h
  | some q =>
    rw [hf] at h
    obtain ⟨a, b, v⟩ := q
    have h1 := List.find?_some hf
    have h2 := List.mem_of_find?_eq_some hf
    simp only [Bool.and_eq_true, beq_iff_eq] at h1
    cases h
    rw [← h1.1, ← h1.2]
    exact h2
theorem kin_all : ∀ q ∈ kinT, q.2.2 < 8 ∧ Cond.methodLinkNest (cN q.1) q.2.1 (kY q.2.2) "FiguredBass" ∈ NI := List.forall_mem_cons.mpr ⟨⟨by decide, List.mem_of_getElem? (i := 0) rfl⟩, List.forall_mem_cons.mpr ⟨⟨by decide, List.mem_of_getElem? (i := 1) rfl⟩, List.forall_mem_cons.mpr ⟨⟨by decide, List.mem_of_getElem? (i := 2) rfl⟩, List.forall_mem_cons.mpr ⟨⟨by decide, List.mem_of_getElem? (i := 3) rfl⟩, List.forall_mem_cons.mpr ⟨⟨by decide, List.mem_of_getElem? (i := 4) rfl⟩, List.forall_mem_cons.mpr ⟨⟨by decide, List.mem_of_getElem? (i := 5) rfl⟩, List.forall_mem_cons.mpr ⟨⟨by decide, List.mem_of_getElem? (i := 6) rfl⟩, fun _ h => absurd h List.not_mem_nil⟩⟩⟩⟩⟩⟩⟩
theorem NI_ok : ∀ w ∈ NI, ∃ a i x h, w = .methodLinkNest a i x h := by
  intro w hw
  simp only [NI, List.mem_cons, List.not_mem_nil, or_false] at hw
  rcases hw with rfl | rfl | rfl | rfl | rfl | rfl | rfl <;> exact ⟨_, _, _, _, rfl⟩
set_option maxRecDepth 20000 in
theorem NI_tab : ∀ w ∈ NI, w ∈ tables_1 := by
  intro w hw
  simp only [NI, List.mem_cons, List.not_mem_nil, or_false] at hw
  rcases hw with rfl | rfl | rfl | rfl | rfl | rfl | rfl
  · exact tb_1 (List.mem_of_getElem? (i := 26) rfl)
  · exact tb_1 (List.mem_of_getElem? (i := 43) rfl)
  · exact tb_1 (List.mem_of_getElem? (i := 100) rfl)
  · exact tb_1 (List.mem_of_getElem? (i := 124) rfl)
  · exact tb_1 (List.mem_of_getElem? (i := 130) rfl)
  · exact tb_1 (List.mem_of_getElem? (i := 49) rfl)
  · exact tb_1 (List.mem_of_getElem? (i := 105) rfl)
set_option maxRecDepth 20000 in
theorem kx_aI : Cond.arrayClass .int ∈ WA := wa_t1 (i := 38) rfl rfl
set_option maxRecDepth 20000 in
theorem kx_aZ : Cond.arrayClass .boolean ∈ WA := wa_t1 (i := 97) rfl rfl
set_option maxRecDepth 20000 in
theorem kx_aL : Cond.arrayClass .long ∈ WA := wa_t5 (i := 123) rfl rfl
set_option maxRecDepth 20000 in
theorem kx_lC : Cond.classLink "FiguredBass" 16 "FiguredBass$Chord" ∈ WA := wa_t1 (i := 39) rfl rfl
set_option maxRecDepth 20000 in
theorem kx_lA : Cond.classLink "FiguredBass$Realisation" 20 "[[I" ∈ WA := wa_t1 (i := 72) rfl rfl
set_option maxRecDepth 20000 in
theorem kx_l8 : Cond.classLink "FiguredBassLaw" 8 "FiguredBass" ∈ WA := wa_t1 (i := 16) rfl rfl
set_option maxRecDepth 20000 in
theorem kx_l63 : Cond.classLink "FiguredBassLaw" 63 "FiguredBassModel" ∈ WA := wa_t4 (i := 13) rfl rfl
set_option maxRecDepth 20000 in
theorem kx_l62 : Cond.methodLink "FiguredBassLaw" 62 (kY 0) ∈ WA := wa_t1 (i := 18) rfl rfl
set_option maxRecDepth 20000 in
theorem kx_l65 : Cond.methodLink "FiguredBassLaw" 65 (kY 7) ∈ WA := wa_t4 (i := 15) rfl rfl
set_option maxRecDepth 20000 in
theorem kx_oC : Cond.arrayOver (.object "FiguredBass$Chord") ∈ tables_1 := tb_1 (List.mem_of_getElem? (i := 40) rfl)
set_option maxRecDepth 20000 in
theorem kx_oI : Cond.arrayOver (.array .int) ∈ tables_1 := tb_1 (List.mem_of_getElem? (i := 73) rfl)
