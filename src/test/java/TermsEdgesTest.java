/** The section "Terms": each bound, each row, each rule and each fee on both of its sides. */
public final class TermsEdgesTest extends Checks {
    private static final int[] C = {0, 4, 0};

    public static void main(String[] args) {
        lettersHaveBases();
        alterationsAreAdded();
        classesWrapAround();
        keyAltersTheFirstLetters();
        tonicWrapsAround();
        leadingIsAClass();
        onlyTheFirstChordsCount();
        bassSoundsFrom36To60();
        numbersGoFrom2To9();
        signsGoFrom0To3();
        shortRowsAreSpelledOut();
        otherRowsAreNot();
        rowsGrow();
        writtenSignsAreKept();
        fifthIsOptional();
        fifthIsNotOptional();
        tonesWrapAround();
        wholeChordsHaveDifferentClasses();
        wholenessGoesWithTheKey();
        seventhIsFound();
        thirdIsNotTheSeventh();
        rangesOfPlacements();
        rangesOfVoices();
        voicesDoNotAscend();
        tenorAndBassDoNotCross();
        voicesAreAtMost12Apart();
        allTonesAreThere();
        placementsAreInOrder();
        parallelIsBroken();
        parallelIsKept();
        parallelHoldsForAllPairs();
        leadingHoldsForSoprano();
        leadingHoldsForBass();
        seventhHoldsForUpperVoices();
        seventhHoldsForBass();
        stepHoldsForUpperVoices();
        stepFromOneEndOfTheLettersToTheOther();
        stepHoldsForBass();
        onlyNeighboursHaveRules();
        feesBeginWithTheSecondVoice();
        feesAreAdded();
        bassGoesForNothing();
        finish("the edges of the terms are as due");
    }

    private static void lettersHaveBases() {
        about("LETTERS are 0 .. 6, with the BASES 0, 2, 4, 5, 7, 9, 11");
        int[] bases = {0, 2, 4, 5, 7, 9, 11};
        FiguredBass piece = new FiguredBass();
        for (int i = 0; i < 7; i++) {
            int letter = i;
            due("letter " + i, 36 + bases[i], answer(() -> piece.bass(0, letter, 3, 0)));
            due("its class", 12 * i + bases[i], answer(() -> piece.spell(0, 0)));
            due("an octave more", 48 + bases[i], answer(() -> piece.bass(0, letter, 4, 0)));
            due("its class", 12 * i + bases[i], answer(() -> piece.spell(0, 0)));
        }
        due("letter -1", ARGUMENT, answer(() -> piece.bass(0, -1, 4, 0)));
        due("letter 7", ARGUMENT, answer(() -> piece.bass(0, 7, 4, 0)));
    }

    private static void alterationsAreAdded() {
        about("an ALTERATION, -1 .. 1; it SOUNDS at 12 times the octave, the base and it");
        FiguredBass piece = new FiguredBass();
        due("G flat", 42, answer(() -> piece.bass(0, 4, 3, -1)));
        due("G", 43, answer(() -> piece.bass(0, 4, 3, 0)));
        due("G sharp", 44, answer(() -> piece.bass(0, 4, 3, 1)));
        due("-2", ARGUMENT, answer(() -> piece.bass(0, 4, 3, -2)));
        due("2", ARGUMENT, answer(() -> piece.bass(0, 4, 3, 2)));
        due("the last one stays", 56, answer(() -> piece.spell(0, 0)));
        piece.key(7, false);
        due("the key does not alter a bass", 43, answer(() -> piece.bass(0, 4, 3, 0)));
        due("nor its class", 55, answer(() -> piece.spell(0, 0)));
    }

    /** Letter and class of a letter's figure, with a sign. */
    private static int spelled(FiguredBass piece, int letter, int sign) {
        piece.bass(0, (letter + 6) % 7, 3, 0);
        piece.figure(0, 9, sign);
        return piece.spell(0, 1);
    }

    private static void classesWrapAround() {
        about("A CLASS is a sound modulo 12");
        FiguredBass piece = new FiguredBass();
        piece.bass(0, 0, 4, -1);
        due("C flat in the bass", 11, piece.spell(0, 0));
        piece.bass(0, 6, 3, 1);
        due("B sharp in the bass", 72, piece.spell(0, 0));
        due("C flat by a sign", 11, spelled(piece, 0, 2));
        due("B sharp by a sign", 72, spelled(piece, 6, 1));
        piece.key(-7, false);
        due("C flat by the key", 11, spelled(piece, 0, 0));
        piece.key(7, false);
        due("B sharp by the key", 72, spelled(piece, 6, 0));
    }

    private static void keyAltersTheFirstLetters() {
        about("with f above 0 the first f letters have the alteration 1, below 0 -1, others 0");
        String[] signatures = {
            "-------", "---0---", "0--0---", "0--00--", "00-00--", "00-000-", "000000-",
            "0000000",
            "000+000", "+00+000", "+00++00", "++0++00", "++0+++0", "++++++0", "+++++++",
        };
        int[] naturals = {0, 14, 28, 41, 55, 69, 83};
        for (int fifths = -7; fifths <= 7; fifths++) {
            FiguredBass piece = new FiguredBass();
            piece.key(fifths, false);
            for (int letter = 0; letter < 7; letter++) {
                char alteration = signatures[fifths + 7].charAt(letter);
                int want = naturals[letter] + (alteration == '+' ? 1 : alteration == '-' ? -1 : 0);
                if (alteration == '+' && letter == 6) {
                    want = 72;
                } else if (alteration == '-' && letter == 0) {
                    want = 11;
                }
                due("letter " + letter + " with " + fifths, want, spelled(piece, letter, 0));
            }
        }
    }

    private static void leads(String name, int want, int fifths, boolean minor) {
        FiguredBass piece = new FiguredBass();
        piece.key(fifths, minor);
        due("the leading class of " + name, want, leadingClass(piece));
    }

    private static void tonicWrapsAround() {
        about("TONIC has the letter 4 f modulo 7 (0 .. 6), in minor 5 more, altered by the key");
        leads("C flat major, 7 flats", 10, -7, false);
        leads("A flat minor, 7 flats", 7, -7, true);
        leads("G flat major, 6 flats", 5, -6, false);
        leads("E flat minor, 6 flats", 2, -6, true);
        leads("F major, 1 flat", 4, -1, false);
        leads("D minor, 1 flat", 1, -1, true);
        leads("C major", 11, 0, false);
        leads("A minor", 8, 0, true);
        leads("G major, 1 sharp", 6, 1, false);
        leads("E minor, 1 sharp", 3, 1, true);
        leads("B major, 5 sharps", 10, 5, false);
        leads("F sharp major, 6 sharps", 5, 6, false);
        leads("D sharp minor, 6 sharps", 2, 6, true);
        leads("C sharp major, 7 sharps", 0, 7, false);
        leads("A sharp minor, 7 sharps", 9, 7, true);
        about("LEADING is the tonic's class and 11, modulo 12");
        leads("C minor, where the sum is 11", 11, -3, true);
        leads("D flat major, where the sum is 12", 0, -5, false);
    }

    private static void leadingIsAClass() {
        about("A LEADING note is one whose class is the tonic's and 11, modulo 12");
        due("C flat leads in C major, too", "0.5.3",
                faultsOfKind(piece(new int[] {0, 4, -1}, new int[] {4, 3, 0}), 5));
        due("C does not", "", faultsOfKind(piece(C, new int[] {4, 3, 0}), 5));
    }

    private static void onlyTheFirstChordsCount() {
        about("CHORDS are 0 .. 7, of which the first n count (n is 1 at first)");
        FiguredBass piece = new FiguredBass();
        for (int i = 0; i < 8; i++) {
            int chord = i;
            due("bass of chord " + i, 38, answer(() -> piece.bass(chord, 1, 3, 0)));
        }
        int[] all = {1, 2, 3, 4, 5, 6, 7, 8};
        due("one chord lacks F and has no C", "0.3.0 0.3.1 0.3.2 0.8.2", listFaults(piece));
        for (int n : all) {
            piece.length(n);
            due("faults of " + n, 4 * n, piece.faults());
            due("the last one is in chord " + (n - 1), n - 1, piece.fault(4 * n - 1, 0));
            due("realise of " + n, 0, answer(piece::realise));
            due("the last chord", 38, answer(() -> piece.note(n - 1, 3)));
            due("the one behind it", ARGUMENT, answer(() -> piece.note(n, 3)));
        }
    }

    private static void bassSoundsFrom36To60() {
        about("a BASS, a note that sounds at 36 to 60");
        FiguredBass piece = new FiguredBass();
        due("B at 35", ARGUMENT, answer(() -> piece.bass(0, 6, 2, 0)));
        due("C flat at 35", ARGUMENT, answer(() -> piece.bass(0, 0, 3, -1)));
        due("none at first, and none was taken", STATE, answer(() -> piece.spell(0, 0)));
        due("C at 36", 36, answer(() -> piece.bass(0, 0, 3, 0)));
        due("B sharp at 36", 36, answer(() -> piece.bass(0, 6, 2, 1)));
        due("C sharp at 37", 37, answer(() -> piece.bass(0, 0, 3, 1)));
        due("B at 59", 59, answer(() -> piece.bass(0, 6, 4, 0)));
        due("C flat at 59", 59, answer(() -> piece.bass(0, 0, 5, -1)));
        due("C at 60", 60, answer(() -> piece.bass(0, 0, 5, 0)));
        due("B sharp at 60", 60, answer(() -> piece.bass(0, 6, 4, 1)));
        due("C sharp at 61", ARGUMENT, answer(() -> piece.bass(0, 0, 5, 1)));
        due("D flat at 61", ARGUMENT, answer(() -> piece.bass(0, 1, 5, -1)));
        due("the last one that was taken", 72, answer(() -> piece.spell(0, 0)));
    }

    private static void numbersGoFrom2To9() {
        about("a number 2 .. 9");
        int[] letters = {14, 28, 41, 55, 69, 83, 0, 14};
        for (int i = 2; i <= 9; i++) {
            int number = i;
            FiguredBass piece = piece(C);
            due("number " + i, 1, answer(() -> piece.figure(0, number, 0)));
            int tone = number == 2 ? 3 : number == 3 ? 2 : number == 4 ? 2 : 1;
            due("its tone", letters[i - 2], answer(() -> piece.spell(0, tone)));
        }
        FiguredBass piece = piece(C);
        due("number 1", ARGUMENT, answer(() -> piece.figure(0, 1, 0)));
        due("number 10", ARGUMENT, answer(() -> piece.figure(0, 10, 0)));
        due("there is no figure", "0 155 28", tones(piece, 0));
    }

    private static void signsGoFrom0To3() {
        about("a SIGN: 0 as the key has it, 1 altered by 1, 2 by -1, 3 by 0");
        FiguredBass piece = new FiguredBass();
        int[][] want = {{54, 56, 54, 55}, {55, 56, 54, 55}, {56, 56, 54, 55}};
        for (int i = 0; i < 3; i++) {
            piece.key(7 * (i - 1), false);
            for (int sign = 0; sign <= 3; sign++) {
                due("G with sign " + sign + " in key " + 7 * (i - 1), want[i][sign],
                        spelled(piece, 4, sign));
            }
        }
        due("sign -1", ARGUMENT, answer(() -> piece.figure(0, 6, -1)));
        due("sign 4", ARGUMENT, answer(() -> piece.figure(0, 6, 4)));
    }

    /** A row over D with 3 sharps: E, F sharp, G sharp, A, B, C sharp are 2 to 7. */
    private static FiguredBass overD(int... figures) {
        FiguredBass piece = new FiguredBass();
        piece.key(3, false);
        piece.bass(0, 1, 3, 0);
        for (int k = 0; k < figures.length; k += 2) {
            piece.figure(0, figures[k], figures[k + 1]);
        }
        return piece;
    }

    private static void row(String want, int... numbers) {
        int[] figures = new int[2 * numbers.length];
        for (int i = 0; i < numbers.length; i++) {
            figures[2 * i] = numbers[i];
        }
        due(join("row", numbers), want, tones(overD(figures), 0));
    }

    private static void shortRowsAreSpelledOut() {
        about("no figure for 5 3");
        row("14 169 42");
        about("3 for 5 3");
        row("14 169 42", 3);
        about("6 for 6 3");
        row("14 83 42", 6);
        about("7 for 7 5 3");
        row("14 1 169 42", 7);
        about("6 5 for 6 5 3");
        row("14 83 69 42", 6, 5);
        about("4 3 for 6 4 3");
        row("14 83 56 42", 4, 3);
        about("2 for 6 4 2");
        row("14 83 56 28", 2);
        about("4 2 for 6 4 2");
        row("14 83 56 28", 4, 2);
        about("4 for 5 4");
        row("14 69 56", 4);
    }

    private static void otherRowsAreNot() {
        about("Some rows, with their numbers in just this order, are SHORT");
        row("14 69 83", 5, 6);
        row("14 42 56", 3, 4);
        row("14 28 56", 2, 4);
        row("14 69", 5);
        row("14 14", 8);
        row("14 28", 9);
        row("14 69 42", 5, 3);
        row("14 42 69", 3, 5);
        row("14 83 42", 6, 3);
        row("14 42 83", 3, 6);
        row("14 83 56", 6, 4);
        row("14 56 83", 4, 6);
        row("14 83 28", 6, 2);
        row("14 1 69", 7, 5);
        row("14 1 42", 7, 3);
        row("14 1 83", 7, 6);
        row("14 69 56", 5, 4);
        row("14 56 69", 4, 5);
        row("14 42 28", 3, 2);
        row("14 28 42", 9, 3);
        row("14 14 69 42", 8, 5, 3);
        row("14 83 69 56", 6, 5, 4);
        row("14 56 42 28", 4, 3, 2);
        row("14 42 69 1", 3, 5, 7);
        row("14 28 56 83", 2, 4, 6);
    }

    private static void rowsGrow() {
        about("a row of at most 3 FIGURES");
        FiguredBass piece = overD();
        due("no figure", "14 169 42", tones(piece, 0));
        piece.figure(0, 4, 0);
        due("a 4, which is short", "14 69 56", tones(piece, 0));
        piece.figure(0, 3, 0);
        due("4 3, which is short", "14 83 56 42", tones(piece, 0));
        piece.figure(0, 2, 0);
        due("4 3 2, which is not", "14 56 42 28", tones(piece, 0));
        due("a fourth one", STATE, answer(() -> piece.figure(0, 6, 0)));
        due("4 3 2 still", "14 56 42 28", tones(piece, 0));
    }

    private static void writtenSignsAreKept() {
        about("figures that are written keep their signs, those that are added have 0");
        due("3 by 0", "14 169 41", tones(overD(3, 3), 0));
        due("3 by -1", "14 169 40", tones(overD(3, 2), 0));
        due("3 by 1", "14 169 42", tones(overD(3, 1), 0));
        due("6 by -1", "14 82 42", tones(overD(6, 2), 0));
        due("7 by 0", "14 0 169 42", tones(overD(7, 3), 0));
        due("6 by -1, 5 by 1", "14 82 70 42", tones(overD(6, 2, 5, 1), 0));
        due("4 by 0, 3 by -1", "14 83 55 40", tones(overD(4, 3, 3, 2), 0));
        due("2 by -1", "14 83 56 27", tones(overD(2, 2), 0));
        due("4 by 0, 2 by -1", "14 83 55 27", tones(overD(4, 3, 2, 2), 0));
        due("4 by 0", "14 69 55", tones(overD(4, 3), 0));
        FiguredBass piece = overD(3, 2);
        piece.key(-7, false);
        due("the 5 goes with the key, the 3 does not", "14 168 40", tones(piece, 0));
    }

    private static void fifthIsOptional() {
        about("With no figure, 3 or 7 the 5 that is added is OPTIONAL");
        due("no figure: C, C and E", "60 60 52", placement(piece(C), 0, 1));
        int[] c3 = {0, 4, 0, 3, 0};
        due("3: C, C and E", "60 60 52", placement(piece(c3), 0, 1));
        int[] c7 = {0, 4, 0, 7, 0};
        due("7: C, B and E", "64 59 48", placement(piece(c7), 0, 1));
        for (int[] chord : new int[][] {C, c3}) {
            FiguredBass piece = piece(chord);
            sing(piece, 0, 60, 60, 52);
            due("no fault without a 5", "", listFaults(piece));
        }
        FiguredBass piece = piece(c7);
        sing(piece, 0, 64, 59, 52);
        due("no fault without a 5", "", listFaults(piece));
    }

    private static void fifthIsNotOptional() {
        about("With no figure, 3 or 7 the 5 that is ADDED is optional: no other one");
        lacks("5 3 is written", "0.8.1", 60, 60, 52, 5, 3);
        lacks("7 5 3 is written", "0.8.2", 64, 59, 52, 7, 5, 3);
        lacks("5 is written", "0.8.1", 60, 60, 48, 5);
        lacks("6 5 is written", "0.8.2", 64, 57, 52, 6, 5);
        lacks("4 has a 5 that is added", "0.8.1", 65, 60, 53, 4);
        lacks("6 has no 5, and the 3 is due", "0.8.2", 60, 57, 57, 6);
        lacks("3 has an optional 5, and the 3 is due", "0.8.2", 67, 60, 55, 3);
    }

    private static void lacks(String what, String want, int soprano, int alto, int tenor,
            int... row) {
        FiguredBass piece = piece(C);
        figures(piece, 0, row);
        sing(piece, 0, soprano, alto, tenor);
        due(what, want, listFaults(piece));
        for (int k = 0; k < piece.places(0); k++) {
            due(what + ", and no placement is like that", false,
                    placement(piece, 0, k).equals(soprano + " " + alto + " " + tenor));
        }
    }

    private static void tonesWrapAround() {
        about("the letter is the bass's and the figure's number less 1, modulo 7");
        int[] wants = {0, 14, 28, 41, 55, 69, 83, 0};
        for (int number = 2; number <= 9; number++) {
            FiguredBass piece = piece(new int[] {6, 3, 0});
            figures(piece, 0, 9, 8, 7);
            due("9 8 7 over B", "83 0 83 69", tones(piece, 0));
            piece.bass(0, 6, 3, 0);
            figures(piece, 0, number == 9 ? 8 : 9, number);
            due(number + " over B", wants[number - 2], answer(() -> piece.spell(0, 2)));
        }
    }

    private static void isWhole(String what, boolean want, int... chord) {
        FiguredBass piece = piece(chord);
        due(what + ", realise", want, !answer(piece::realise).equals(STATE));
        due(what + ", faults", want, !answer(piece::faults).equals(STATE));
        due(what + ", places", want, !answer(() -> piece.places(0)).equals(STATE));
        due(what + ", place", want, !answer(() -> piece.place(0, 0, 0)).equals(STATE));
    }

    private static void wholeChordsHaveDifferentClasses() {
        about("A chord is WHOLE if it has a bass");
        FiguredBass piece = new FiguredBass();
        due("no bass", STATE, answer(() -> piece.places(0)));
        due("a bass", 48, answer(() -> piece.bass(0, 0, 4, 0)));
        due("whole", 40, answer(() -> piece.places(0)));
        about("and all its tones have different classes");
        isWhole("no figure", true, 0, 4, 0);
        isWhole("3 figures", true, 0, 4, 0, 6, 0, 5, 0, 4, 0);
        isWhole("8 as the bass", false, 0, 4, 0, 8, 0);
        isWhole("8 as the bass, the last of 3", false, 0, 4, 0, 5, 0, 3, 0, 8, 0);
        isWhole("8 over C sharp", true, 0, 4, 1, 8, 0);
        isWhole("8 by 1 over C sharp", false, 0, 4, 1, 8, 1);
        isWhole("9 and 2 alike", false, 0, 4, 0, 9, 0, 2, 0);
        isWhole("9 and 2 with two signs", true, 0, 4, 0, 9, 0, 2, 1);
        isWhole("B sharp over C: other letters, one class", false, 0, 4, 0, 7, 1);
        isWhole("E and F flat over C", false, 0, 4, 0, 3, 0, 4, 2);
        isWhole("A sharp over C and an optional G", true, 0, 4, 0, 7, 2);
        isWhole("an added 6 and a 5 that are one", false, 3, 3, 1, 2, 2);
        isWhole("an optional 5 is a tone, too", true, 2, 3, 1);
    }

    private static void wholenessGoesWithTheKey() {
        about("all its tones have different classes, with the alteration by the sign");
        FiguredBass piece = piece(new int[] {2, 3, 1, 2, 0});
        due("E sharp and F", STATE, answer(() -> piece.places(0)));
        due("they are spelled all the same", "29 0 69 41", tones(piece, 0));
        piece.key(1, false);
        due("E sharp and F sharp", "29 0 69 42", tones(piece, 0));
        due("it is whole now", false, answer(() -> piece.places(0)).equals(STATE));
        piece.key(-7, true);
        due("E sharp and F flat", "29 11 68 40", tones(piece, 0));
        due("it is whole now", false, answer(() -> piece.places(0)).equals(STATE));
        piece.key(0, true);
        due("E sharp and F again", STATE, answer(() -> piece.places(0)));
    }

    /** The classes over C that an alto can't leave upwards. */
    private static String sevenths(int... row) {
        StringBuilder all = new StringBuilder();
        for (int i = 0; i < 12; i++) {
            FiguredBass piece = piece(C, C);
            figures(piece, 0, row);
            piece.pupil(0, 1, 60 + i);
            piece.pupil(1, 1, 65 + i);
            if (faultsOfKind(piece, 6).contains("0.6.1")) {
                all.append(i);
            }
        }
        return all.toString();
    }

    private static void seventh(String want, int... row) {
        due(join("the seventh of", row), want, sevenths(row));
    }

    /** Over C in C major 2 to 7 have the classes 2, 4, 5, 7, 9, 11. */
    private static void seventhIsFound() {
        about("Its SEVENTH is, if the row has a 7, that one's tone");
        seventh("11", 7);
        seventh("11", 7, 5, 3);
        seventh("11", 7, 6, 5);
        seventh("11", 7, 4, 3);
        seventh("11", 7, 4, 2);
        seventh("11", 2, 4, 7);
        about("otherwise if it has 6 and 5, the 5's");
        seventh("7", 6, 5);
        seventh("7", 5, 6);
        seventh("7", 6, 5, 4);
        seventh("7", 2, 6, 5);
        about("otherwise, with 4 and 3, the 3's");
        seventh("4", 4, 3);
        seventh("4", 3, 4);
        seventh("4", 5, 4, 3);
        seventh("4", 4, 3, 2);
        about("with 4 and 2, the bass's");
        seventh("0", 2);
        seventh("0", 4, 2);
        seventh("0", 2, 4);
        seventh("0", 5, 4, 2);
        about("otherwise there is none");
        seventh("");
        seventh("", 3);
        seventh("", 6);
        seventh("", 4);
        seventh("", 5);
        seventh("", 9);
        seventh("", 6, 4);
        seventh("", 6, 3);
        seventh("", 5, 3);
        seventh("", 6, 2);
        seventh("", 9, 4);
        seventh("", 3, 2);
    }

    private static void thirdIsNotTheSeventh() {
        about("Its THIRD is the 3's tone");
        // B leads and A is the seventh, so one of B, A and D has a fee, and D's is the least.
        due("7 3: D is doubled", 3, piece(new int[] {6, 3, 0, 7, 0, 3, 0}).realise());
        due("7 4: E is doubled", 0, piece(new int[] {6, 3, 0, 7, 0, 4, 0}).realise());
        due("6 3: G is doubled", 0, piece(new int[] {6, 3, 0, 6, 0}).realise());
    }

    /** The least and the greatest sound of a voice in all placements of a chord. */
    private static String extent(int voice, int... chord) {
        FiguredBass piece = piece(chord);
        int least = 128;
        int greatest = -1;
        for (int k = 0; k < piece.places(0); k++) {
            least = Math.min(least, piece.place(0, k, voice));
            greatest = Math.max(greatest, piece.place(0, k, voice));
        }
        return least + " " + greatest;
    }

    private static void rangesOfPlacements() {
        about("RANGES 60 to 81");
        due("C and G: 60 is taken", "60 79", extent(0, 0, 3, 0, 5, 0));
        due("B and F: 59 is not", "65 77", extent(0, 6, 3, 0, 5, 0));
        due("D and A: 81 is taken", "62 81", extent(0, 1, 3, 0, 5, 0));
        due("B flat and F: 82 is not", "65 77", extent(0, 6, 3, -1, 5, 0));
        about("RANGES 55 to 74");
        due("G and D: 55 and 74 are taken", "55 74", extent(1, 4, 3, 0, 5, 0));
        due("F sharp and C: 54 is not", "60 72", extent(1, 3, 3, 1, 5, 0));
        due("E flat and B flat: 75 is not", "58 70", extent(1, 2, 3, -1, 5, 2));
        about("RANGES 48 to 67");
        due("C and G: 48 and 67 are taken", "48 67", extent(2, 0, 3, 0, 5, 0));
        due("B and F: 47 is not", "53 65", extent(2, 6, 3, 0, 5, 0));
        due("A flat and E flat: 68 is not", "51 63", extent(2, 5, 3, -1, 5, 2));
    }

    private static void rangesOfVoices() {
        about("RANGES 60 to 81, 55 to 74, 48 to 67");
        int[][] ranges = {{60, 81}, {55, 74}, {48, 67}};
        for (int v = 0; v < 3; v++) {
            for (int sound = 0; sound <= 127; sound++) {
                FiguredBass piece = piece(C);
                piece.pupil(0, v, sound);
                boolean out = sound < ranges[v][0] || sound > ranges[v][1];
                due("voice " + v + " at " + sound, out ? "0.0." + v : "",
                        faultsOfKind(piece, 0));
            }
        }
    }

    private static String crossing(int soprano, int alto, int tenor) {
        FiguredBass piece = piece(new int[] {0, 5, 0});
        sing(piece, 0, soprano, alto, tenor);
        return faultsOfKind(piece, 1);
    }

    private static void voicesDoNotAscend() {
        about("not ascending from each voice to the next one (the bass, too)");
        due("all of them alike", "", crossing(60, 60, 60));
        due("all of them descending", "", crossing(63, 62, 61));
        due("the alto above the soprano", "0.1.1", crossing(62, 63, 61));
        due("the tenor above the alto", "0.1.6", crossing(63, 61, 62));
        due("the bass above the tenor", "0.1.11", crossing(63, 61, 59));
        due("all of them ascending", "0.1.1 0.1.6 0.1.11", crossing(57, 58, 59));
        due("the tenor above the soprano alone", "0.1.6", crossing(62, 61, 63));
        int alike = 0;
        FiguredBass piece = piece(new int[] {0, 3, 0, 5, 0});
        for (int k = 0; k < piece.places(0); k++) {
            int soprano = piece.place(0, k, 0);
            int alto = piece.place(0, k, 1);
            int tenor = piece.place(0, k, 2);
            due("no voice ascends", true, soprano >= alto && alto >= tenor);
            alike += soprano == alto ? 1 : 0;
            alike += alto == tenor ? 1 : 0;
        }
        due("some voices are alike", true, alike > 0);
    }

    private static void tenorAndBassDoNotCross() {
        about("not ascending from each voice to the next one (the bass, too): the tenor");
        due("C at 60: the tenor is at 60 or 67", "60 67", extent(2, 0, 5, 0, 5, 0));
        due("B at 59: the tenor is at 59 or 65", "59 65", extent(2, 6, 4, 0, 5, 0));
        due("the first placement over C at 60", "67 60 60",
                placement(piece(new int[] {0, 5, 0, 5, 0}), 0, 0));
    }

    private static String gaps(int soprano, int alto, int tenor) {
        FiguredBass piece = piece(new int[] {0, 3, 0});
        sing(piece, 0, soprano, alto, tenor);
        return faultsOfKind(piece, 2);
    }

    private static void voicesAreAtMost12Apart() {
        about("soprano and alto, and alto and tenor, not more than 12 apart");
        due("12 and 12", "", gaps(72, 60, 48));
        due("13 and 11", "0.2.1", gaps(73, 60, 49));
        due("11 and 13", "0.2.6", gaps(71, 60, 47));
        due("13 and 13", "0.2.1 0.2.6", gaps(74, 61, 48));
        due("12 the other way", "", gaps(60, 72, 60));
        due("13 the other way", "0.2.1 0.2.6", gaps(60, 73, 60));
        due("tenor and bass may be far apart", "", gaps(79, 79, 79));
        // C and C sharp: 73 over 60 and 61 over 48 would be 13 apart.
        FiguredBass piece = piece(new int[] {0, 3, 0, 8, 1});
        int twelve = 0;
        for (int k = 0; k < piece.places(0); k++) {
            int upper = piece.place(0, k, 0) - piece.place(0, k, 1);
            int lower = piece.place(0, k, 1) - piece.place(0, k, 2);
            due("no placement is too wide", true, upper <= 12 && lower <= 12);
            twelve += upper == 12 || lower == 12 ? 1 : 0;
        }
        due("some voices are 12 apart", 9, twelve);
    }

    private static void allTonesAreThere() {
        about("such that the classes of all tones but optional ones are there (with the bass)");
        FiguredBass piece = piece(new int[] {0, 4, 0, 6, 0, 5, 0});
        for (int k = 0; k < piece.places(0); k++) {
            int product = 1;
            for (int v = 0; v < 3; v++) {
                int sound = piece.place(0, k, v) % 12;
                product *= sound == 9 ? 2 : sound == 7 ? 3 : sound == 4 ? 5 : 7;
            }
            due("A, G and E over C, once each", 30, product);
        }
        due("there is room for them", true, piece.places(0) > 0);
        piece = piece(new int[] {0, 5, 0, 5, 1, 6, 3, 7, 2});
        due("no room for three tones, since the tenor is at 60", 0, piece.places(0));
    }

    private static void placementsAreInOrder() {
        about("Placements are ordered by the soprano, then the alto, then the tenor");
        String[] all = {
            "60 60 49",
            "61 60 48", "61 60 49", "61 60 60", "61 61 49", "61 61 60", "61 61 61",
            "72 60 49", "72 61 49", "72 61 60", "72 61 61", "72 72 61",
            "73 61 49", "73 61 60", "73 61 61", "73 72 60", "73 72 61", "73 73 61",
        };
        FiguredBass piece = piece(new int[] {0, 3, 0, 8, 1});
        due("C and C sharp", all.length, piece.places(0));
        for (int k = 0; k < all.length; k++) {
            due("placement " + k, all[k], placement(piece, 0, k));
        }
    }

    /** Faults of PARALLEL when soprano and alto go and all others stay. */
    private static String parallel(int soprano, int alto, int nextSoprano, int nextAlto) {
        FiguredBass piece = piece(C, C);
        sing(piece, 0, soprano, alto, 50);
        sing(piece, 1, nextSoprano, nextAlto, 50);
        return faultsOfKind(piece, 4);
    }

    private static void parallelIsBroken() {
        about("4 PARALLEL: not both move, when they are apart by the same class, 7 or 0");
        due("7 and 7", "0.4.1", parallel(67, 60, 69, 62));
        due("7 and 7, downwards", "0.4.1", parallel(67, 60, 65, 58));
        due("12 and 12", "0.4.1", parallel(72, 60, 74, 62));
        due("0 and 0", "0.4.1", parallel(60, 60, 62, 62));
        due("12 and 0, in two directions", "0.4.1", parallel(72, 60, 62, 62));
        due("0 and 24, in two directions", "0.4.1", parallel(60, 60, 83, 59));
        due("19 and 7, in two directions", "0.4.1", parallel(79, 60, 69, 62));
        due("7 and 31", "0.4.1", parallel(67, 60, 89, 58));
        due("-5 is 7 modulo 12", "0.4.1", parallel(60, 65, 62, 67));
        due("-12 is 0 modulo 12", "0.4.1", parallel(60, 72, 62, 74));
        due("7 and -5", "0.4.1", parallel(67, 60, 57, 62));
    }

    private static void parallelIsKept() {
        about("4 PARALLEL: not BOTH move");
        due("both stay", "", parallel(67, 60, 67, 60));
        due("the alto stays", "", parallel(67, 60, 79, 60));
        due("the soprano stays", "", parallel(72, 60, 72, 48));
        about("4 PARALLEL: apart by the SAME class");
        due("7 and 12", "", parallel(67, 60, 74, 62));
        due("12 and 7", "", parallel(72, 60, 69, 62));
        due("7 and 8", "", parallel(67, 60, 70, 62));
        due("6 and 7", "", parallel(66, 60, 69, 62));
        due("0 and 1", "", parallel(60, 60, 63, 62));
        about("4 PARALLEL: 7 or 0");
        for (int apart = -11; apart <= 11; apart++) {
            boolean broken = apart == 7 || apart == 0 || apart == -5;
            due(apart + " twice", broken ? "0.4.1" : "",
                    parallel(70 + apart, 70, 72 + apart, 72));
        }
        due("-7 is 5 modulo 12", "", parallel(60, 67, 62, 69));
    }

    private static void parallelHoldsForAllPairs() {
        about("4 PARALLEL, for two voices");
        String[] wants = {"0.4.1", "0.4.2", "0.4.3", "0.4.6", "0.4.7", "0.4.11"};
        int pair = 0;
        for (int v = 0; v < 4; v++) {
            for (int w = v + 1; w < 4; w++) {
                FiguredBass piece = piece(C, w == 3 ? new int[] {1, 4, 0} : C);
                piece.pupil(0, v, 67);
                piece.pupil(1, v, 69);
                if (w < 3) {
                    piece.pupil(1, w, 62);
                }
                due("voices " + v + " and " + w, wants[pair], faultsOfKind(piece, 4));
                pair++;
            }
        }
        FiguredBass piece = piece(new int[] {0, 3, 0}, new int[] {1, 3, 0});
        for (int v = 0; v < 3; v++) {
            piece.pupil(1, v, 62);
        }
        due("all voices", String.join(" ", wants), faultsOfKind(piece, 4));
    }

    /** Faults of a kind when one of voices 0 to 2 goes and the others stay at 60. */
    private static String going(int kind, int voice, int from, int to, int[] first,
            int[] second) {
        FiguredBass piece = piece(first, second);
        piece.pupil(0, voice, from);
        piece.pupil(1, voice, to);
        return faultsOfKind(piece, kind);
    }

    private static void leadingHoldsForSoprano() {
        about("5 LEADING, for soprano and bass: from a leading note a voice stays or goes up by 1");
        for (int to = 0; to <= 127; to++) {
            due("the soprano from B at 71 to " + to, to == 71 || to == 72 ? "" : "0.5.0",
                    going(5, 0, 71, to, C, C));
            due("the alto from B at 71 to " + to, "", going(5, 1, 71, to, C, C));
            due("the tenor from B at 59 to " + to, "", going(5, 2, 59, to, C, C));
        }
        for (int from = 0; from <= 122; from++) {
            due("the soprano from " + from + " up by 5", from % 12 == 11 ? "0.5.0" : "",
                    going(5, 0, from, from + 5, C, C));
        }
    }

    /** A bass at a sound, by a letter as it is or altered by 1. */
    private static int[] bassAt(int sound) {
        int[] letters = {0, 0, 1, 1, 2, 3, 3, 4, 4, 5, 5, 6};
        int[] alterations = {0, 1, 0, 1, 0, 0, 1, 0, 1, 0, 1, 0};
        return new int[] {letters[sound % 12], sound / 12, alterations[sound % 12]};
    }

    private static void leadingHoldsForBass() {
        about("5 LEADING, for soprano and BASS");
        for (int to = 36; to <= 60; to++) {
            due("the bass from B at 47 to " + to, to == 47 || to == 48 ? "" : "0.5.3",
                    faultsOfKind(piece(bassAt(47), bassAt(to)), 5));
            due("the bass from B at 59 to " + to, to == 59 || to == 60 ? "" : "0.5.3",
                    faultsOfKind(piece(bassAt(59), bassAt(to)), 5));
            boolean leads = to % 12 == 11;
            due("the bass from " + to + " to another one", leads ? "0.5.3" : "",
                    faultsOfKind(piece(bassAt(to), bassAt(to == 41 ? 43 : 41)), 5));
        }
    }

    private static void seventhHoldsForUpperVoices() {
        about("6 SEVENTH: from the sound of the class of the first chord's seventh a voice stays"
                + " or goes down by 1 or 2");
        int[] g7 = {4, 3, 0, 7, 0};
        for (int v = 0; v < 3; v++) {
            for (int to = 0; to <= 127; to++) {
                due("voice " + v + " from F at 65 to " + to, to >= 63 && to <= 65 ? "" : "0.6." + v,
                        going(6, v, 65, to, g7, C));
            }
            for (int from = 0; from <= 124; from++) {
                due("voice " + v + " from " + from + " up by 3", from % 12 == 5 ? "0.6." + v : "",
                        going(6, v, from, from + 3, g7, C));
            }
        }
        due("the second chord's seventh", "", going(6, 0, 65, 70, C, g7));
    }

    private static void seventhHoldsForBass() {
        about("6 SEVENTH, for each voice: the bass");
        int[] f2 = {3, 3, 0, 2, 0};
        for (int to = 36; to <= 60; to++) {
            due("the bass from F at 41 to " + to, to >= 39 && to <= 41 ? "" : "0.6.3",
                    faultsOfKind(piece(f2, bassAt(to)), 6));
        }
    }

    private static void stepHoldsForUpperVoices() {
        about("7 STEP: it does not go by 3 to a letter that is next to its own");
        int[] f = {3, 3, 0};
        int[] e = {2, 3, 0, 3, 1};
        int[] fMinor = {3, 3, 0, 3, 2};
        for (int v = 0; v < 3; v++) {
            due("F to G sharp", "0.7." + v, going(7, v, 65, 68, f, e));
            due("G sharp to F", "0.7." + v, going(7, v, 68, 65, e, f));
            due("F to A flat", "", going(7, v, 65, 68, f, fMinor));
            due("A flat to F", "", going(7, v, 68, 65, fMinor, f));
            due("F to G sharp by 15", "", going(7, v, 65, 80, f, e));
            due("F to G sharp by 9", "", going(7, v, 65, 56, f, e));
        }
        about("7 STEP: it does not go BY 3");
        // E flat, G flat and B flat, then F, A and C: by 2 and by 3 to the next letter.
        int[] eFlat = {2, 3, -1, 3, 2, 5, 2};
        due("E flat to F, by 2", "", going(7, 0, 63, 65, eFlat, f));
        due("G flat to A, by 3", "0.7.0", going(7, 0, 66, 69, eFlat, f));
        due("G flat to F, by 1", "", going(7, 0, 66, 65, eFlat, f));
        due("F flat to G sharp, by 4", "", going(7, 0, 64, 68, new int[] {3, 3, -1}, e));
        about("STEP where both sounds have tones");
        due("the first one has none", "", going(7, 0, 65, 68, C, e));
        due("the second one has none", "", going(7, 0, 65, 68, f, f));
        due("neither has one", "", going(7, 0, 66, 69, C, C));
    }

    private static void stepFromOneEndOfTheLettersToTheOther() {
        about("7 STEP: (0 and 6 are, too)");
        int[] bFlat = {6, 3, -1};
        int[] cSharp = {0, 3, 1};
        due("B flat to C sharp", "0.7.0", going(7, 0, 70, 73, bFlat, cSharp));
        due("C sharp to B flat", "0.7.0", going(7, 0, 73, 70, cSharp, bFlat));
        int[] a = {5, 3, 0};
        due("A to C: 5 and 0 are not", "", going(7, 0, 69, 72, a, C));
        due("C to A: 0 and 5 are not", "", going(7, 0, 72, 69, C, a));
        int[] g = {4, 3, 0};
        due("B to D: 6 and 1 are not", "", going(7, 0, 71, 74, g, g));
    }

    private static void stepHoldsForBass() {
        about("7 STEP, for each voice: the bass");
        due("F to G sharp", "0.7.3", faultsOfKind(piece(bassAt(41), bassAt(44)), 7));
        due("G sharp to F", "0.7.3", faultsOfKind(piece(bassAt(44), bassAt(41)), 7));
        due("F to A flat", "", faultsOfKind(piece(bassAt(41), new int[] {5, 3, -1}), 7));
        due("F to G sharp by 15", "", faultsOfKind(piece(bassAt(41), bassAt(56)), 7));
        due("B flat to C sharp", "0.7.3",
                faultsOfKind(piece(new int[] {6, 3, -1}, bassAt(49)), 7));
        due("F to G", "", faultsOfKind(piece(bassAt(41), bassAt(43)), 7));
    }

    private static void onlyNeighboursHaveRules() {
        about("RULES, for two neighbouring chords");
        FiguredBass piece = piece(C, C, C);
        sing(piece, 0, 67, 60, 60);
        sing(piece, 1, 67, 60, 60);
        sing(piece, 2, 69, 62, 60);
        due("from chord 1 to chord 2", "1.4.1", faultsOfKind(piece, 4));
        sing(piece, 0, 65, 58, 60);
        due("from each chord to the next one", "0.4.1 1.4.1", faultsOfKind(piece, 4));
        sing(piece, 1, 64, 60, 60);
        due("not from chord 0 to chord 2", "", faultsOfKind(piece, 4));
        sing(piece, 1, 67, 60, 60);
        piece.length(2);
        due("not to a chord that does not count", "0.4.1", faultsOfKind(piece, 4));
        piece.length(1);
        due("none of one chord", "", faultsOfKind(piece, 4));
    }

    private static void fee(String what, int want, String sounds, int... chord) {
        FiguredBass piece = piece(chord);
        due(what, want, answer(piece::realise));
        due(what + ", laid out", sounds, laidOut(piece, 0));
        due(what + ", its chord", want, answer(() -> piece.cost(0)));
    }

    private static void feesBeginWithTheSecondVoice() {
        about("the FEES: for each voice but the first one of a leading note's class 9");
        fee("no leading note", 0, "60 55 52", 0, 4, 0);
        fee("one leading note", 0, "62 59 50", 4, 3, 0, 3, 0);
        // B and B flat over B at 59, where the tenor has to be.
        fee("two leading notes", 9, "70 70 59", 6, 4, 0, 8, 2);
        about("of the third's 3");
        fee("two thirds", 3, "62 57 50", 6, 3, 0, 7, 0, 3, 0);
    }

    private static void feesAreAdded() {
        about("the FEES of all chords");
        FiguredBass piece = piece(new int[] {6, 4, 0, 8, 2}, new int[] {6, 4, 0, 8, 2},
                new int[] {6, 4, 0, 8, 2});
        due("9 for each of three", 27, answer(piece::realise));
        for (int i = 0; i < 3; i++) {
            int chord = i;
            due("chord " + i, 9, answer(() -> piece.cost(chord)));
        }
    }

    private static void bassGoesForNothing() {
        about("THE COST is how far voices 0 to 2 go in all");
        FiguredBass piece = piece(new int[] {0, 3, 0}, new int[] {0, 5, 0}, new int[] {0, 3, 0});
        due("two octaves of the bass", 0, answer(piece::realise));
        due("the upper voices stay", laidOut(piece, 0), laidOut(piece, 1));
        due("the bass goes", 60, answer(() -> piece.note(1, 3)));
    }
}
