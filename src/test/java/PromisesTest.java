/** Each promise of the document, with answers that were worked out by hand. */
public final class PromisesTest extends Checks {
    public static void main(String[] args) {
        newObject();
        keyAlters();
        keyLeads();
        keyRefuses();
        lengthCounts();
        bassSounds();
        bassRefuses();
        figureCounts();
        figureRefuses();
        spellShortRows();
        spellSigns();
        spellRefuses();
        placesCounts();
        placeOrders();
        realiseFindsTheLeast();
        realiseKeepsRules();
        realiseSaysWhere();
        noteTellsWhatIsLaidOut();
        noteForgets();
        costAddsUp();
        pupilIsWritten();
        faultsOfOneChord();
        faultsOfMoves();
        faultAnswers();
        finish("all promises hold");
    }

    private static void newObject() {
        about("Promise 1");
        FiguredBass piece = new FiguredBass();
        for (int i = 0; i < 8; i++) {
            int chord = i;
            due("spell without a bass", STATE, answer(() -> piece.spell(chord, 0)));
        }
        due("realise without a bass", STATE, answer(piece::realise));
        due("faults without a bass", STATE, answer(piece::faults));
        due("note of chord 0", STATE, answer(() -> piece.note(0, 0)));
        due("note of chord 1, which does not count", ARGUMENT, answer(() -> piece.note(1, 0)));
        due("fault", INDEX, answer(() -> piece.fault(0, 0)));
        piece.bass(0, 1, 3, 0);
        due("D without figures in C major", "14 169 41", tones(piece, 0));
        piece.bass(0, 0, 4, 0);
        due("all of the pupil's sounds are 60", "0.8.2", listFaults(piece));
        due("leading class", 11, leadingClass(piece));
    }

    private static void keyAlters() {
        about("Promise 2");
        String sharps = "3041526";
        String flats = "6251403";
        FiguredBass piece = new FiguredBass();
        for (int fifths = -7; fifths <= 7; fifths++) {
            piece.key(fifths, fifths % 2 == 0);
            for (int letter = 0; letter < 7; letter++) {
                int bassLetter = (letter + 6) % 7;
                piece.bass(0, bassLetter, 3, 0);
                piece.figure(0, 9, 0);
                char name = (char) ('0' + letter);
                int alteration = 0;
                if (fifths > 0 && sharps.substring(0, fifths).indexOf(name) >= 0) {
                    alteration = 1;
                } else if (fifths < 0 && flats.substring(0, -fifths).indexOf(name) >= 0) {
                    alteration = -1;
                }
                int sound = new int[] {0, 2, 4, 5, 7, 9, 11}[letter] + alteration;
                due("letter " + letter + " with " + fifths + " fifths",
                        letter * 12 + Math.floorMod(sound, 12), piece.spell(0, 1));
            }
        }
    }

    private static void keyLeads() {
        about("Promise 2");
        // Of the majors from 7 flats to 7 sharps; a minor's tonic is 3 lower.
        int[] tonics = {11, 6, 1, 8, 3, 10, 5, 0, 7, 2, 9, 4, 11, 6, 1};
        for (int fifths = -7; fifths <= 7; fifths++) {
            FiguredBass piece = new FiguredBass();
            piece.key(fifths, false);
            int tonic = tonics[fifths + 7];
            due("leading class of major " + fifths, (tonic + 11) % 12, leadingClass(piece));
            FiguredBass other = new FiguredBass();
            other.key(fifths, true);
            due("leading class of minor " + fifths, (tonic + 8) % 12, leadingClass(other));
        }
    }

    private static void keyRefuses() {
        about("Promise 2");
        FiguredBass piece = cadence();
        piece.realise();
        for (int fifths : new int[] {LEAST, -8, 8, GREATEST}) {
            due("key " + fifths, ARGUMENT, done(() -> piece.key(fifths, true)));
        }
        due("note after a refused key", 64, answer(() -> piece.note(0, 0)));
        due("the key is as it was", "55 41 114 83", tones(piece, 2));
    }

    private static void lengthCounts() {
        about("Promise 3");
        FiguredBass piece = new FiguredBass();
        piece.bass(0, 0, 4, 0);
        due("realise of one chord", 0, answer(piece::realise));
        due("length 2", 0, done(() -> piece.length(2)));
        due("realise with a chord without a bass", STATE, answer(piece::realise));
        due("note of chord 1", STATE, answer(() -> piece.note(1, 0)));
        due("note of chord 2", ARGUMENT, answer(() -> piece.note(2, 0)));
        due("length 8", 0, done(() -> piece.length(8)));
        due("note of chord 7", STATE, answer(() -> piece.note(7, 0)));
        due("length 1", 0, done(() -> piece.length(1)));
        due("realise of one chord again", 0, answer(piece::realise));
        for (int n : new int[] {LEAST, -1, 0, 9, GREATEST}) {
            due("length " + n, ARGUMENT, done(() -> piece.length(n)));
        }
        due("note after a refused length", 60, answer(() -> piece.note(0, 0)));
        due("note of chord 1 after a refused length", ARGUMENT, answer(() -> piece.note(1, 0)));
    }

    private static void bassSounds() {
        about("Promise 4");
        FiguredBass piece = new FiguredBass();
        due("lowest C", 36, answer(() -> piece.bass(0, 0, 3, 0)));
        due("lowest B sharp", 36, answer(() -> piece.bass(0, 6, 2, 1)));
        due("its class", "72", answer(() -> piece.spell(0, 0)));
        due("highest C", 60, answer(() -> piece.bass(0, 0, 5, 0)));
        due("highest B sharp", 60, answer(() -> piece.bass(0, 6, 4, 1)));
        due("C flat", 47, answer(() -> piece.bass(0, 0, 4, -1)));
        due("its class", "11", answer(() -> piece.spell(0, 0)));
        due("a chord that does not count", 45, answer(() -> piece.bass(7, 5, 3, 0)));
        int[] sounds = {36, 38, 40, 41, 43, 45, 47};
        for (int i = 0; i < 7; i++) {
            int letter = i;
            due("letter " + i, sounds[i], answer(() -> piece.bass(3, letter, 3, 0)));
        }
        figures(piece, 7, 6, 5, 4);
        due("the same bass again", 45, answer(() -> piece.bass(7, 5, 3, 0)));
        due("its figures are gone", 1, answer(() -> piece.figure(7, 6, 0)));
    }

    private static void bassRefuses() {
        about("Promise 4");
        FiguredBass piece = new FiguredBass();
        piece.bass(0, 4, 3, 0);
        figures(piece, 0, 7);
        piece.realise();
        String before = tones(piece, 0) + " " + laidOut(piece, 0);
        for (int chord : NO_CHORDS) {
            due("chord " + chord, ARGUMENT, answer(() -> piece.bass(chord, 0, 4, 0)));
        }
        for (int letter : new int[] {LEAST, -1, 7, GREATEST}) {
            due("letter " + letter, ARGUMENT, answer(() -> piece.bass(0, letter, 4, 0)));
        }
        for (int alteration : new int[] {LEAST, -2, 2, GREATEST}) {
            due("alteration " + alteration, ARGUMENT,
                    answer(() -> piece.bass(0, 4, 3, alteration)));
        }
        // 357913945 octaves are 48 more than a turn of an int.
        int[] octaves = {LEAST, -1, 0, 2, 6, 357913945, 715827886, GREATEST};
        for (int octave : octaves) {
            due("octave " + octave, ARGUMENT, answer(() -> piece.bass(0, 0, octave, 0)));
        }
        due("just too low", ARGUMENT, answer(() -> piece.bass(0, 0, 3, -1)));
        due("just too high", ARGUMENT, answer(() -> piece.bass(0, 0, 5, 1)));
        due("nothing has changed", before, tones(piece, 0) + " " + laidOut(piece, 0));
    }

    private static void figureCounts() {
        about("Promise 5");
        FiguredBass piece = new FiguredBass();
        piece.bass(7, 0, 4, 0);
        due("the first figure", 1, answer(() -> piece.figure(7, 9, 3)));
        due("the second figure", 2, answer(() -> piece.figure(7, 2, 1)));
        due("the third figure", 3, answer(() -> piece.figure(7, 4, 0)));
        due("9 and 2 are two numbers", "0 14 15 41", tones(piece, 7));
        due("a fourth figure", STATE, answer(() -> piece.figure(7, 5, 0)));
        due("the row is as it was", "0 14 15 41", tones(piece, 7));
    }

    private static void figureRefuses() {
        about("Promise 5");
        FiguredBass piece = new FiguredBass();
        due("without a bass", STATE, answer(() -> piece.figure(0, 6, 0)));
        due("a wrong number without a bass", ARGUMENT, answer(() -> piece.figure(0, 10, 0)));
        piece.bass(0, 0, 4, 0);
        figures(piece, 0, 6);
        piece.realise();
        String before = tones(piece, 0) + " " + laidOut(piece, 0);
        for (int chord : NO_CHORDS) {
            due("chord " + chord, ARGUMENT, answer(() -> piece.figure(chord, 4, 0)));
        }
        for (int number : new int[] {LEAST, -1, 0, 1, 10, GREATEST}) {
            due("number " + number, ARGUMENT, answer(() -> piece.figure(0, number, 0)));
        }
        for (int sign : new int[] {LEAST, -1, 4, GREATEST}) {
            due("sign " + sign, ARGUMENT, answer(() -> piece.figure(0, 4, sign)));
        }
        due("the same number", STATE, answer(() -> piece.figure(0, 6, 1)));
        due("a wrong sign with the same number", ARGUMENT, answer(() -> piece.figure(0, 6, 4)));
        due("nothing has changed", before, tones(piece, 0) + " " + laidOut(piece, 0));
    }

    private static void spellRow(String want, int... numbers) {
        FiguredBass piece = new FiguredBass();
        piece.bass(0, 0, 4, 0);
        figures(piece, 0, numbers);
        StringBuilder row = new StringBuilder("row");
        for (int number : numbers) {
            row.append(' ').append(number);
        }
        due(row.toString(), want, tones(piece, 0));
    }

    /** Over C in C major: 2 is 14, 3 is 28, 4 is 41, 5 is 55, 6 is 69, 7 is 83. */
    private static void spellShortRows() {
        about("Promise 6");
        spellRow("0 155 28");
        spellRow("0 155 28", 3);
        spellRow("0 69 28", 6);
        spellRow("0 83 155 28", 7);
        spellRow("0 69 55 28", 6, 5);
        spellRow("0 69 41 28", 4, 3);
        spellRow("0 69 41 14", 2);
        spellRow("0 69 41 14", 4, 2);
        spellRow("0 55 41", 4);
        spellRow("0 55", 5);
        spellRow("0 55 28", 5, 3);
        spellRow("0 28 55", 3, 5);
        spellRow("0 83 55 28", 7, 5, 3);
        spellRow("0 83 28", 7, 3);
        spellRow("0 55 69", 5, 6);
        spellRow("0 28 41", 3, 4);
        spellRow("0 14 41", 2, 4);
        spellRow("0 69 41", 6, 4);
        spellRow("0 0", 8);
        spellRow("0 14", 9);
    }

    private static void spellSigns() {
        about("Promise 6");
        FiguredBass piece = new FiguredBass();
        piece.key(2, false);
        piece.bass(0, 0, 4, -1);
        due("the bass has its own alteration", 11, answer(() -> piece.spell(0, 0)));
        piece.bass(0, 1, 3, 0);
        due("as the key has it", "14 169 42", tones(piece, 0));
        piece.figure(0, 3, 3);
        due("3 as it is without the key", "14 169 41", tones(piece, 0));
        piece.bass(0, 1, 3, 0);
        piece.figure(0, 3, 2);
        due("3 altered by -1", "14 169 40", tones(piece, 0));
        piece.bass(0, 1, 3, 0);
        piece.figure(0, 7, 1);
        due("7 altered by 1, not more", "14 1 169 42", tones(piece, 0));
        piece.bass(0, 1, 3, 0);
        piece.figure(0, 4, 1);
        piece.figure(0, 3, 2);
        due("both keep their signs", "14 83 56 40", tones(piece, 0));
        piece.key(-7, true);
        due("figures that are added go with the key", "14 82 56 40", tones(piece, 0));
        piece.bass(0, 5, 3, 0);
        piece.figure(0, 3, 2);
        due("C flat has the class 11", "69 127 11", tones(piece, 0));
        piece.bass(0, 4, 3, 0);
        piece.figure(0, 3, 1);
        due("B sharp has the class 0", "55 113 72", tones(piece, 0));
    }

    private static void spellRefuses() {
        about("Promise 6");
        FiguredBass piece = new FiguredBass();
        for (int chord : NO_CHORDS) {
            due("chord " + chord, ARGUMENT, answer(() -> piece.spell(chord, 0)));
        }
        due("no bass and no such tone", STATE, answer(() -> piece.spell(0, 9)));
        piece.bass(0, 0, 4, 0);
        for (int k : new int[] {LEAST, -1, 3, 4, GREATEST}) {
            due("tone " + k, INDEX, answer(() -> piece.spell(0, k)));
        }
        piece.figure(0, 8, 0);
        due("of a chord that is not whole", 0, answer(() -> piece.spell(0, 1)));
    }

    private static void placesCounts() {
        about("Promise 7");
        FiguredBass piece = cadence();
        for (int chord : NO_CHORDS) {
            due("chord " + chord, ARGUMENT, answer(() -> piece.places(chord)));
        }
        due("C", 40, answer(() -> piece.places(0)));
        due("G with 7", 27, answer(() -> piece.places(2)));
        due("a chord without a bass", STATE, answer(() -> piece.places(7)));
        piece.bass(7, 0, 4, 0);
        due("a chord that does not count", 40, answer(() -> piece.places(7)));
        piece.figure(7, 8, 0);
        due("a chord with a class twice", STATE, answer(() -> piece.places(7)));
        piece.key(7, false);
        due("the same with C sharp by the key", 18, answer(() -> piece.places(7)));
        piece.bass(7, 1, 3, 0);
        piece.figure(7, 5, 1);
        piece.figure(7, 6, 2);
        due("A sharp and B flat", STATE, answer(() -> piece.places(7)));
        piece.bass(7, 0, 5, 0);
        piece.figure(7, 5, 1);
        piece.figure(7, 6, 3);
        piece.figure(7, 7, 2);
        due("no room for the tenor but at 60", 0, answer(() -> piece.places(7)));
    }

    private static void placeOrders() {
        about("Promise 8");
        FiguredBass piece = cadence();
        String[] first = {"60 55 52", "60 60 52", "64 55 48", "64 55 52", "64 55 55", "64 60 48"};
        for (int k = 0; k < first.length; k++) {
            due("placement " + k + " of C", first[k], placement(piece, 0, k));
        }
        due("the last placement of C", "79 72 64", placement(piece, 0, 39));
        for (int k : new int[] {LEAST, -1, 40, 64, GREATEST}) {
            due("placement " + k, INDEX, answer(() -> piece.place(0, k, 0)));
        }
        for (int chord : NO_CHORDS) {
            due("chord " + chord, ARGUMENT, answer(() -> piece.place(chord, 0, 0)));
        }
        for (int voice : new int[] {LEAST, -1, 3, 4, GREATEST}) {
            due("voice " + voice, ARGUMENT, answer(() -> piece.place(7, 99, voice)));
        }
        due("without a bass", STATE, answer(() -> piece.place(7, 99, 0)));
        piece.bass(0, 0, 5, 0);
        due("the tenor is not under the bass", "64 60 60", placement(piece, 0, 0));
    }

    private static void realiseFindsTheLeast() {
        about("Promise 9");
        FiguredBass piece = cadence();
        due("the cadence", 8, answer(piece::realise));
        due("chord 0", "64 60 55", laidOut(piece, 0));
        due("chord 1", "65 60 57", laidOut(piece, 1));
        due("chord 2", "65 59 55", laidOut(piece, 2));
        due("chord 3", "64 60 55", laidOut(piece, 3));
        due("again", 8, answer(piece::realise));
        piece.length(1);
        due("of several the first one", 0, answer(piece::realise));
        due("it is placement 0", placement(piece, 0, 0), laidOut(piece, 0));
        piece.length(8);
        due("chords without a bass", STATE, answer(piece::realise));
        for (int i = 0; i < 8; i++) {
            piece.bass(i, 0, 4, 0);
        }
        due("eight times the same", 0, answer(piece::realise));
        due("the last one stays at placement 0", placement(piece, 0, 0), laidOut(piece, 7));
        piece.figure(7, 8, 0);
        due("a chord that is not whole", STATE, answer(piece::realise));
        due("nothing is laid out then", STATE, answer(() -> piece.note(0, 0)));
    }

    private static void realiseKeepsRules() {
        about("Promise 9");
        // A realisation, handed in as a pupil's, must have no fault.
        int[][] basses = {{0, 4}, {5, 3}, {1, 4}, {4, 3}, {0, 4}, {3, 3}, {4, 3}, {0, 3}};
        for (int fifths = -7; fifths <= 7; fifths++) {
            FiguredBass piece = new FiguredBass();
            piece.key(fifths, false);
            piece.length(8);
            for (int i = 0; i < 8; i++) {
                piece.bass(i, basses[i][0], basses[i][1], 0);
            }
            piece.figure(3, 7, 0);
            piece.figure(6, 4, 0);
            if (piece.realise() >= 0) {
                for (int i = 0; i < 8; i++) {
                    sing(piece, i, piece.note(i, 0), piece.note(i, 1), piece.note(i, 2));
                }
                due("faults with " + fifths + " fifths", "", listFaults(piece));
            }
        }
    }

    /** Two chords that no upper voices can save, since the bass itself breaks a rule. */
    private static void basses(String what, int want, int[] first, int[] second) {
        FiguredBass piece = new FiguredBass();
        piece.length(2);
        piece.bass(0, first[0], first[1], first[2]);
        if (first[3] != 0) {
            piece.figure(0, first[3], 0);
        }
        piece.bass(1, second[0], second[1], second[2]);
        if (second[3] != 0) {
            piece.figure(1, second[3], 0);
        }
        due(what, want < 0, piece.realise() < 0);
        if (want < 0) {
            due(what, want, answer(piece::realise));
            due("nothing is laid out then", STATE, answer(() -> piece.note(0, 3)));
        }
    }

    private static void realiseSaysWhere() {
        about("Promise 9");
        basses("LEADING: B to G", -2, new int[] {6, 3, 0, 6}, new int[] {4, 3, 0, 0});
        basses("LEADING: B to C", 0, new int[] {6, 3, 0, 6}, new int[] {0, 4, 0, 0});
        basses("SEVENTH: C under 2 to A", -2, new int[] {0, 4, 0, 2}, new int[] {5, 3, 0, 0});
        basses("SEVENTH: C under 2 to B", 0, new int[] {0, 4, 0, 2}, new int[] {6, 3, 0, 6});
        basses("STEP: F to G sharp", -2, new int[] {3, 3, 0, 0}, new int[] {4, 3, 1, 6});
        basses("STEP: B flat to C sharp", -2, new int[] {6, 3, -1, 0}, new int[] {0, 4, 1, 6});
        FiguredBass piece = cadence();
        piece.realise();
        piece.bass(4, 6, 3, 0);
        piece.figure(4, 6, 0);
        piece.bass(5, 4, 3, 0);
        piece.bass(6, 0, 4, 0);
        piece.length(7);
        due("B to G at the sixth chord", -6, answer(piece::realise));
        piece.bass(0, 0, 5, 0);
        piece.figure(0, 5, 1);
        piece.figure(0, 6, 3);
        piece.figure(0, 7, 2);
        due("no placement of the first chord", -1, answer(piece::realise));
        due("nothing is laid out then", STATE, answer(() -> piece.cost(0)));
    }

    private static void noteTellsWhatIsLaidOut() {
        about("Promise 10");
        FiguredBass piece = cadence();
        due("before a realisation", STATE, answer(() -> piece.note(0, 0)));
        piece.realise();
        int[] bass = {48, 41, 43, 36};
        for (int i = 0; i < 4; i++) {
            int chord = i;
            due("bass of chord " + i, bass[i], answer(() -> piece.note(chord, 3)));
        }
        for (int voice : new int[] {LEAST, -1, 4, GREATEST}) {
            due("voice " + voice, ARGUMENT, answer(() -> piece.note(0, voice)));
        }
        for (int chord : new int[] {LEAST, -1, 4, 7, 8, GREATEST}) {
            due("chord " + chord, ARGUMENT, answer(() -> piece.note(chord, 0)));
            due("cost of chord " + chord, ARGUMENT, answer(() -> piece.cost(chord)));
        }
        sing(piece, 0, 72, 67, 64);
        piece.faults();
        piece.places(2);
        due("after the pupil's sounds", 64, answer(() -> piece.note(0, 0)));
    }

    private static void forgets(String what, FiguredBass piece, Runnable write) {
        piece.realise();
        due("note before " + what, 41, answer(() -> piece.note(1, 3)));
        write.run();
        due("note after " + what, STATE, answer(() -> piece.note(1, 3)));
        due("cost after " + what, STATE, answer(() -> piece.cost(1)));
        due("a wrong voice after " + what, ARGUMENT, answer(() -> piece.note(1, 4)));
    }

    private static void noteForgets() {
        about("Promise 10");
        FiguredBass piece = cadence();
        forgets("the same key", piece, () -> piece.key(0, false));
        forgets("the same length", piece, () -> piece.length(4));
        forgets("the same bass", piece, () -> piece.bass(0, 0, 4, 0));
        forgets("a bass that does not count", piece, () -> piece.bass(7, 0, 4, 0));
        forgets("a figure that does not count", piece, () -> piece.figure(7, 6, 0));
        piece.realise();
        due("a refused figure", STATE, answer(() -> piece.figure(7, 6, 0)));
        due("note after a refused figure", 41, answer(() -> piece.note(1, 3)));
    }

    private static void costAddsUp() {
        about("Promise 11");
        FiguredBass piece = cadence();
        due("before a realisation", STATE, answer(() -> piece.cost(0)));
        piece.realise();
        int[] costs = {0, 3, 3, 2};
        for (int i = 0; i < 4; i++) {
            int chord = i;
            due("cost of chord " + i, costs[i], answer(() -> piece.cost(chord)));
        }
        // B, A and D, one of them twice: the leading note and the seventh are 9, the third is 3.
        piece.length(1);
        piece.bass(0, 6, 3, 0);
        figures(piece, 0, 7, 3);
        due("the third is doubled", 3, answer(piece::realise));
        due("the first placement of those", "62 57 50", laidOut(piece, 0));
        due("its fee", 3, answer(() -> piece.cost(0)));
        piece.key(-3, false);
        piece.bass(0, 6, 3, 0);
        piece.figure(0, 7, 3);
        piece.figure(0, 3, 3);
        due("no leading note in another key", 0, answer(piece::realise));
        // B, B flat and A over a high B: there is no room for the tenor but with the bass.
        piece.key(0, false);
        piece.bass(0, 6, 4, 0);
        piece.figure(0, 8, 2);
        piece.figure(0, 7, 3);
        due("the leading note is doubled", 9, answer(piece::realise));
        due("the first placement of all", "70 69 59", laidOut(piece, 0));
        due("its fee", 9, answer(() -> piece.cost(0)));
        piece.key(0, true);
        due("where B does not lead", 0, answer(piece::realise));
        sevenths();
        piece.key(3, true);
        piece.bass(0, 6, 3, 0);
        figures(piece, 0, 4, 2);
        piece.length(2);
        piece.bass(1, 5, 3, 0);
        piece.figure(1, 6, 0);
        int least = piece.realise();
        due("the chords' costs together", least, piece.cost(0) + piece.cost(1));
    }

    /** F, E and B, then E and B: an F would go in octaves with the bass, or far. */
    private static void sevenths() {
        FiguredBass piece = new FiguredBass();
        piece.length(2);
        piece.bass(0, 3, 3, 0);
        figures(piece, 0, 7, 4);
        piece.bass(1, 2, 3, 0);
        figures(piece, 1, 5);
        due("the seventh is doubled", 9, answer(piece::realise));
        due("by soprano and tenor", "64 59 52", laidOut(piece, 0));
        due("who stay", "64 59 52", laidOut(piece, 1));
        due("the fee of the first chord", 9, answer(() -> piece.cost(0)));
        due("nothing for the second chord", 0, answer(() -> piece.cost(1)));
    }

    private static void pupilIsWritten() {
        about("Promise 12");
        FiguredBass piece = new FiguredBass();
        piece.bass(0, 0, 4, 0);
        for (int chord : NO_CHORDS) {
            due("chord " + chord, ARGUMENT, done(() -> piece.pupil(chord, 0, 60)));
        }
        for (int voice : new int[] {LEAST, -1, 3, 4, GREATEST}) {
            due("voice " + voice, ARGUMENT, done(() -> piece.pupil(0, voice, 60)));
        }
        for (int sound : new int[] {LEAST, -1, 128, GREATEST}) {
            due("sound " + sound, ARGUMENT, done(() -> piece.pupil(0, 0, sound)));
        }
        due("nothing has changed", "0.8.2", listFaults(piece));
        due("the lowest sound", 0, done(() -> piece.pupil(7, 2, 0)));
        due("the highest sound", 0, done(() -> piece.pupil(0, 0, 127)));
        due("it is a G, out of range, and far", "0.0.0 0.2.1 0.8.2", listFaults(piece));
        sing(piece, 0, 64, 60, 55);
        due("a good setting", "", listFaults(piece));
        piece.bass(0, 0, 4, 0);
        due("a bass leaves the pupil's sounds", "", listFaults(piece));
    }

    private static void chordFaults(String want, FiguredBass piece, int... sounds) {
        sing(piece, 0, sounds[0], sounds[1], sounds[2]);
        due("faults of " + sounds[0] + " " + sounds[1] + " " + sounds[2], want, listFaults(piece));
    }

    private static void faultsOfOneChord() {
        about("Promise 13");
        FiguredBass piece = new FiguredBass();
        due("without a bass", STATE, answer(piece::faults));
        piece.bass(0, 0, 4, 0);
        chordFaults("", piece, 64, 60, 55);
        chordFaults("", piece, 60, 55, 52);
        chordFaults("", piece, 64, 60, 48);
        chordFaults("", piece, 72, 60, 52);
        chordFaults("0.0.0", piece, 84, 72, 64);
        chordFaults("0.0.0", piece, 55, 55, 52);
        chordFaults("0.0.1", piece, 76, 76, 64);
        chordFaults("0.0.1", piece, 60, 52, 52);
        chordFaults("0.0.2", piece, 76, 72, 72);
        chordFaults("0.1.1", piece, 60, 64, 55);
        chordFaults("0.1.6", piece, 64, 55, 60);
        chordFaults("0.2.1", piece, 76, 60, 55);
        chordFaults("0.2.6", piece, 67, 67, 52);
        chordFaults("0.0.1 0.1.1 0.2.1", piece, 60, 76, 64);
        chordFaults("0.3.2", piece, 64, 60, 57);
        chordFaults("0.3.0 0.3.1 0.3.2 0.8.2", piece, 62, 57, 53);
        chordFaults("0.8.2", piece, 67, 60, 55);
        chordFaults("0.0.0 0.0.1 0.0.2 0.1.11 0.8.2", piece, 0, 0, 0);
        piece.bass(0, 0, 5, 0);
        chordFaults("0.1.11", piece, 64, 60, 55);
        chordFaults("", piece, 64, 60, 60);
        piece.bass(0, 0, 3, 0);
        chordFaults("0.0.2", piece, 64, 55, 43);
        chordFaults("", piece, 76, 72, 64);
        piece.figure(0, 5, 0);
        chordFaults("0.8.1", piece, 60, 60, 48);
        piece.figure(0, 3, 0);
        chordFaults("0.8.1", piece, 64, 60, 48);
        piece.bass(0, 3, 3, 0);
        chordFaults("", piece, 81, 72, 65);
        piece.bass(0, 4, 3, 0);
        figures(piece, 0, 5);
        chordFaults("", piece, 79, 74, 67);
        piece.figure(0, 8, 0);
        due("a chord that is not whole", STATE, answer(piece::faults));
    }

    private static void moveFaults(String want, FiguredBass piece, int... sounds) {
        sing(piece, 0, sounds[0], sounds[1], sounds[2]);
        sing(piece, 1, sounds[3], sounds[4], sounds[5]);
        StringBuilder name = new StringBuilder("faults of");
        for (int sound : sounds) {
            name.append(' ').append(sound);
        }
        due(name.toString(), want, listFaults(piece));
    }

    private static void faultsOfMoves() {
        about("Promise 14");
        int[] c = {0, 4, 0};
        int[] f = {3, 3, 0};
        int[] g = {4, 3, 0};
        int[] g7 = {4, 3, 0, 7, 0};
        int[] b6 = {6, 3, 0, 6, 0};
        int[] b65 = {6, 3, 0, 6, 0, 5, 0};
        int[] d43 = {1, 4, 0, 4, 0, 3, 0};
        moveFaults("0.4.2 0.4.3 0.4.11", piece(c, new int[] {1, 4, 0}), 67, 64, 60, 69, 65, 62);
        moveFaults("", piece(c, new int[] {0, 3, 0}), 67, 64, 60, 67, 64, 60);
        moveFaults("0.4.3", piece(new int[] {0, 5, 0}, new int[] {1, 4, 0}),
                67, 64, 60, 69, 65, 53);
        moveFaults("0.5.0", piece(g, c), 71, 62, 55, 67, 64, 55);
        moveFaults("", piece(g, c), 71, 62, 55, 72, 64, 55);
        moveFaults("", piece(g, new int[] {2, 3, 0}), 71, 62, 55, 71, 64, 55);
        moveFaults("", piece(g, c), 67, 59, 50, 67, 55, 52);
        moveFaults("0.5.3", piece(b6, g), 67, 62, 55, 67, 62, 59);
        moveFaults("0.6.0", piece(g7, c), 65, 59, 55, 67, 60, 52);
        moveFaults("", piece(g7, c), 65, 59, 55, 64, 60, 55);
        moveFaults("", piece(g7, new int[] {0, 4, 0, 3, 2}), 65, 59, 55, 63, 60, 55);
        moveFaults("", piece(g7, f), 65, 59, 55, 65, 60, 57);
        moveFaults("0.6.0", piece(g7, g), 65, 59, 55, 62, 59, 55);
        moveFaults("0.6.0", piece(b65, c), 65, 62, 55, 67, 64, 55);
        moveFaults("", piece(b65, c), 65, 62, 55, 64, 60, 55);
        moveFaults("0.6.0", piece(d43, c), 65, 59, 55, 67, 64, 55);
        moveFaults("", piece(d43, c), 65, 59, 55, 64, 60, 55);
        moveFaults("0.6.3", piece(new int[] {3, 3, 0, 2, 0}, g), 67, 62, 59, 67, 62, 59);
        moveFaults("", piece(new int[] {3, 3, 0, 2, 0}, new int[] {2, 3, 0, 6, 0}),
                67, 62, 59, 67, 60, 60);
        moveFaults("0.7.0", piece(f, new int[] {2, 3, 0, 3, 1}), 65, 60, 57, 68, 64, 59);
        moveFaults("", piece(f, new int[] {3, 3, 0, 3, 2}), 65, 60, 57, 68, 60, 53);
        moveFaults("1.3.0", piece(f, f), 65, 60, 57, 68, 60, 57);
        moveFaults("1.3.0", piece(c, c), 72, 64, 60, 75, 64, 60);
        moveFaults("0.7.3", piece(new int[] {3, 4, 0}, new int[] {4, 4, 1, 6, 0}),
                69, 65, 60, 71, 64, 59);
        // A leading note needs no tone to lead.
        moveFaults("0.3.0 0.5.0", piece(c, c), 71, 64, 60, 67, 64, 60);
    }

    private static void faultAnswers() {
        about("Promise 14");
        FiguredBass piece = cadence();
        due("none were looked for", INDEX, answer(() -> piece.fault(0, 0)));
        due("none were looked for, and nothing such", INDEX, answer(() -> piece.fault(0, 3)));
        due("faults", 8, answer(piece::faults));
        String all = "0.8.2 1.8.2 2.3.0 2.3.1 2.3.2 2.8.1 2.8.3 3.8.2";
        due("their order", all, listFaults(piece));
        for (int k : new int[] {LEAST, -1, 8, 9, GREATEST}) {
            due("fault " + k, INDEX, answer(() -> piece.fault(k, 0)));
            due("fault " + k + " and nothing such", INDEX, answer(() -> piece.fault(k, 3)));
        }
        for (int what : new int[] {LEAST, -1, 3, GREATEST}) {
            due("what " + what, ARGUMENT, answer(() -> piece.fault(7, what)));
        }
        sing(piece, 0, 64, 60, 55);
        piece.realise();
        piece.bass(3, 0, 3, 0);
        piece.length(8);
        due("faults with chords without a bass", STATE, answer(piece::faults));
        due("what was found last is still there", 3, answer(() -> piece.fault(7, 0)));
        piece.length(1);
        due("no fault in the first chord now", 0, answer(piece::faults));
        due("no fault is left", INDEX, answer(() -> piece.fault(0, 0)));
    }
}
