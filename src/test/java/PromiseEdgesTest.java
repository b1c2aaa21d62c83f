/**
 * The sections "Promise 1" to "Promise 14": the last values that are taken, the first and the last
 * tone, placement, chord and fault, and what a call leaves for those behind it. RefusalTest has the
 * values that are refused.
 */
public final class PromiseEdgesTest extends Checks {
    private static final int[] C = {0, 4, 0};
    private static final int[] F = {3, 3, 0};
    private static final int[] G = {4, 3, 0};
    private static final int[] B6 = {6, 3, 0, 6, 0};
    // G sharp, A and B flat over C at 60, where the tenor has to be: no room for all three.
    private static final int[] NO_ROOM = {0, 5, 0, 5, 1, 6, 3, 7, 2};

    public static void main(String[] args) {
        newObjectHasAKey();
        newObjectHasOneChord();
        newObjectIsSungAt60();
        objectsAreApart();
        lastCallAnswers();
        keyTakesItsEnds();
        keyReadsAllChordsAnew();
        lengthTakesItsEnds();
        lengthKeepsChords();
        bassTakesItsEnds();
        bassDropsFigures();
        bassLeavesTheRest();
        figureTakesItsEnds();
        figureCounts();
        figureRefusesEachNumberAgain();
        spellFirstAndLastTone();
        spellOptionalTone();
        placesFromNoneToMost();
        placesGoWithTheChord();
        placeFirstAndLast();
        realiseOneChord();
        realiseEightChords();
        realiseTakesTheFirstOfSeveral();
        realiseWeighsFees();
        realiseSaysEachChord();
        realiseSaysTheLeastChord();
        realiseSaysWhereAWayEnds();
        realiseNeedsWholeChords();
        noteFirstAndLast();
        noteIsLostByWrites();
        noteIsKeptByOthers();
        noteComesBack();
        costFirstAndLast();
        pupilTakesItsEnds();
        pupilIsKept();
        faultsFromNoneToMany();
        faultsNeedWholeChords();
        faultFirstAndLast();
        faultsAreOrdered();
        faultsOfKind8();
        faultsFoundLastStay();
        finish("the edges of the promises are as due");
    }

    private static void newObjectHasAKey() {
        about("Promise 1: Key of 0 fifths, not minor");
        FiguredBass piece = new FiguredBass();
        piece.bass(0, 2, 3, 0);
        figures(piece, 0, 9, 7, 5);
        due("F, D and B over E", "28 41 14 83", tones(piece, 0));
        piece.bass(0, 6, 3, 0);
        figures(piece, 0, 9, 7, 6);
        due("C, A and G over B", "83 0 69 55", tones(piece, 0));
        due("B leads", 11, leadingClass(piece));
    }

    private static void newObjectHasOneChord() {
        about("Promise 1: one chord without a bass");
        FiguredBass piece = new FiguredBass();
        due("realise", STATE, answer(piece::realise));
        piece.bass(1, 0, 4, 0);
        due("realise with a bass of the second chord", STATE, answer(piece::realise));
        piece.bass(0, 0, 4, 0);
        due("realise with a bass of the first chord", 0, answer(piece::realise));
        due("the first chord", 48, answer(() -> piece.note(0, 3)));
        due("the second chord does not count", ARGUMENT, answer(() -> piece.note(1, 3)));
    }

    private static void newObjectIsSungAt60() {
        about("Promise 12: (all are 60 at first)");
        FiguredBass piece = piece(C, C, C, C, C, C, C, C);
        due("C in all voices, E is in none", "0.8.2 1.8.2 2.8.2 3.8.2 4.8.2 5.8.2 6.8.2 7.8.2",
                listFaults(piece));
    }

    private static void objectsAreApart() {
        about("Promise 1: a new object");
        FiguredBass other = cadence();
        other.key(-7, true);
        sing(other, 0, 0, 0, 0);
        other.faults();
        other.realise();
        FiguredBass piece = piece(C);
        due("its key", "0 155 28", tones(piece, 0));
        due("its second chord", STATE, answer(() -> piece.spell(1, 0)));
        due("nothing is laid out", STATE, answer(() -> piece.note(0, 0)));
        due("none were looked for", INDEX, answer(() -> piece.fault(0, 0)));
        due("its sounds", "0.8.2", listFaults(piece));
    }

    private static void lastCallAnswers() {
        about("An object is used for at most 512 calls");
        FiguredBass piece = cadence();
        int calls = 6;
        while (calls < 508) {
            piece.bass(3, 0, 3, 0);
            piece.faults();
            calls += 2;
        }
        due("realise, call 509", 8, answer(piece::realise));
        due("cost, call 510", 2, answer(() -> piece.cost(3)));
        due("fault, call 511", 2, answer(() -> piece.fault(7, 2)));
        due("note, call 512", 36, answer(() -> piece.note(3, 3)));
    }

    private static void keyTakesItsEnds() {
        about("Promise 2: -7 .. 7");
        FiguredBass piece = piece(C);
        due("-7 minor", 0, done(() -> piece.key(-7, true)));
        due("G flat and E flat over C", "0 154 27", tones(piece, 0));
        due("7 minor", 0, done(() -> piece.key(7, true)));
        due("G sharp and E sharp over C", "0 156 29", tones(piece, 0));
        due("-7", 0, done(() -> piece.key(-7, false)));
        due("7", 0, done(() -> piece.key(7, false)));
        due("0", 0, done(() -> piece.key(0, false)));
        due("nothing is left of the others", "0 155 28", tones(piece, 0));
    }

    private static void keyReadsAllChordsAnew() {
        about("Promise 2: the key of all chords, also of those that do not count");
        FiguredBass piece = new FiguredBass();
        for (int i = 0; i < 8; i++) {
            piece.bass(i, 0, 4, 0);
        }
        piece.figure(7, 7, 3);
        piece.key(7, false);
        for (int i = 0; i < 7; i++) {
            due("chord " + i, "0 156 29", tones(piece, i));
        }
        due("chord 7 keeps its sign", "0 83 156 29", tones(piece, 7));
        piece.key(-7, false);
        due("the last chord again", "0 83 154 27", tones(piece, 7));
    }

    private static void lengthTakesItsEnds() {
        about("Promise 3: 1 .. 8");
        FiguredBass piece = new FiguredBass();
        due("8", 0, done(() -> piece.length(8)));
        due("chord 7 counts", STATE, answer(() -> piece.note(7, 0)));
        due("1", 0, done(() -> piece.length(1)));
        due("chord 0 counts", STATE, answer(() -> piece.note(0, 0)));
        due("chord 1 does not", ARGUMENT, answer(() -> piece.note(1, 0)));
    }

    private static void lengthKeepsChords() {
        about("Promise 3: how many chords count, and no more than that");
        FiguredBass piece = cadence();
        sing(piece, 3, 64, 60, 55);
        piece.length(1);
        piece.length(8);
        piece.length(4);
        due("the figure of chord 2", "55 41 114 83", tones(piece, 2));
        due("realise", 8, answer(piece::realise));
        due("the pupil's chord 3 is good, the others are not", 7, answer(piece::faults));
    }

    private static void bassTakesItsEnds() {
        about("Promise 4: (0 .. 7), letter, alteration, 36 to 60");
        FiguredBass piece = new FiguredBass();
        due("the first chord and letter, at 36", 36, answer(() -> piece.bass(0, 0, 3, 0)));
        due("the last chord and letter, at 36", 36, answer(() -> piece.bass(7, 6, 2, 1)));
        due("the first chord and letter, at 60", 60, answer(() -> piece.bass(0, 0, 5, 0)));
        due("the last chord and letter, at 60", 60, answer(() -> piece.bass(7, 6, 4, 1)));
        due("the first letter, altered by -1", 59, answer(() -> piece.bass(0, 0, 5, -1)));
        due("the first chord", 11, answer(() -> piece.spell(0, 0)));
        due("the last chord", 72, answer(() -> piece.spell(7, 0)));
    }

    private static void bassDropsFigures() {
        about("Promise 4: its figures go");
        FiguredBass piece = new FiguredBass();
        write(piece, 0, 0, 4, 0, 6, 1, 5, 2, 4, 3);
        due("3 figures", "0 70 54 41", tones(piece, 0));
        due("the same bass", 48, answer(() -> piece.bass(0, 0, 4, 0)));
        due("no figure", "0 155 28", tones(piece, 0));
        due("a number that it had is the first one", 1, answer(() -> piece.figure(0, 6, 0)));
        due("its sign is gone, too", "0 69 28", tones(piece, 0));
        due("another bass", 36, answer(() -> piece.bass(0, 0, 3, 0)));
        due("no figure", "0 155 28", tones(piece, 0));
        due("a refused bass", ARGUMENT, answer(() -> piece.bass(0, 0, 2, 0)));
        piece.figure(0, 7, 0);
        due("a refused bass", ARGUMENT, answer(() -> piece.bass(0, 0, 2, 0)));
        due("its figure is still there", "0 83 155 28", tones(piece, 0));
    }

    private static void bassLeavesTheRest() {
        about("Promise 4: the bass of ONE chord");
        FiguredBass piece = cadence();
        sing(piece, 1, 65, 60, 57);
        piece.bass(1, 3, 4, 0);
        due("the chord before", "0 155 28", tones(piece, 0));
        due("the chord behind", "55 41 114 83", tones(piece, 2));
        // With octaves of soprano and bass, from C to F.
        due("the pupil's sounds", "0.4.3 0.8.2 2.3.0 2.3.1 2.3.2 2.8.1 2.8.3 3.8.2",
                listFaults(piece));
    }

    private static void figureTakesItsEnds() {
        about("Promise 5: chord 0 .. 7, number 2 .. 9, sign 0 .. 3");
        FiguredBass piece = new FiguredBass();
        piece.bass(0, 0, 4, 0);
        piece.bass(7, 0, 4, 0);
        due("the first chord, 9, sign 3", 1, answer(() -> piece.figure(0, 9, 3)));
        due("the first chord, 2, sign 0", 2, answer(() -> piece.figure(0, 2, 0)));
        due("both have their tones", "0 14 14", tones(piece, 0));
        due("the last chord, 2, sign 3", 1, answer(() -> piece.figure(7, 2, 3)));
        due("the last chord, 9, sign 2", 2, answer(() -> piece.figure(7, 9, 2)));
        due("both have their tones", "0 14 13", tones(piece, 7));
    }

    private static void figureCounts() {
        about("Promise 5: one more figure behind a chord's others: how many it has");
        FiguredBass piece = piece(C, C);
        due("the first one", 1, answer(() -> piece.figure(0, 5, 0)));
        due("the second one", 2, answer(() -> piece.figure(0, 6, 0)));
        due("the first one of another chord", 1, answer(() -> piece.figure(1, 5, 0)));
        due("the third one", 3, answer(() -> piece.figure(0, 8, 1)));
        due("in the order in which they came", "0 55 69 1", tones(piece, 0));
        due("a fourth one: it has 3", STATE, answer(() -> piece.figure(0, 2, 0)));
        due("the second one of the other chord", 2, answer(() -> piece.figure(1, 6, 0)));
    }

    private static void figureRefusesEachNumberAgain() {
        about("Promise 5: it has this number");
        for (int number = 2; number <= 9; number++) {
            int again = number;
            FiguredBass piece = piece(C);
            due(number + " once", 1, answer(() -> piece.figure(0, again, 0)));
            due(number + " twice", STATE, answer(() -> piece.figure(0, again, 3)));
            int other = number == 9 ? 2 : number + 1;
            due("another one", 2, answer(() -> piece.figure(0, other, 0)));
            due("the first one again", STATE, answer(() -> piece.figure(0, again, 1)));
            due("the second one again", STATE, answer(() -> piece.figure(0, other, 2)));
        }
        FiguredBass piece = piece(C);
        piece.figure(0, 6, 0);
        due("a 3 that a short row adds is not written", 2, answer(() -> piece.figure(0, 3, 2)));
        due("it has its own sign", "0 69 27", tones(piece, 0));
    }

    private static void spellFirstAndLastTone() {
        about("Promise 6: there is no such tone");
        FiguredBass piece = new FiguredBass();
        write(piece, 0, 0, 4, 0, 5, 0);
        write(piece, 1, 0, 4, 0);
        write(piece, 2, 0, 4, 0, 7, 0);
        write(piece, 3, 0, 4, 0, 9, 0, 6, 0, 4, 0);
        int[] last = {55, 28, 28, 41};
        for (int i = 0; i < 4; i++) {
            int chord = i;
            int count = new int[] {2, 3, 4, 4}[i];
            due("the first tone of " + count, 0, answer(() -> piece.spell(chord, 0)));
            due("the last tone of " + count, last[i], answer(() -> piece.spell(chord, count - 1)));
            due("the one behind it", INDEX, answer(() -> piece.spell(chord, count)));
            due("the one before the first", INDEX, answer(() -> piece.spell(chord, -1)));
        }
        about("Promise 6: a chord that is not whole has tones");
        write(piece, 0, 0, 4, 0, 8, 0);
        due("C twice", "0 0", tones(piece, 0));
        due("the one behind them", INDEX, answer(() -> piece.spell(0, 2)));
        due("a chord that does not count", 0, answer(() -> piece.spell(3, 0)));
    }

    private static void spellOptionalTone() {
        about("Promise 6: 100 more if it is optional");
        due("B over E without figures, the greatest answer", 183,
                answer(() -> piece(new int[] {2, 3, 0}).spell(0, 1)));
        due("C over F without figures, the least one", 100, answer(() -> piece(F).spell(0, 1)));
        due("no other tone of it", "41 100 69", tones(piece(F), 0));
        due("with 3", "41 100 69", tones(piece(new int[] {3, 3, 0, 3, 0}), 0));
        due("with 7", "41 28 100 69", tones(piece(new int[] {3, 3, 0, 7, 0}), 0));
        FiguredBass piece = piece(F);
        piece.figure(0, 7, 0);
        piece.figure(0, 5, 0);
        due("a 5 that is written is not", "41 28 0", tones(piece, 0));
        due("4 has a 5 that is not", "41 0 83", tones(piece(new int[] {3, 3, 0, 4, 0}), 0));
    }

    private static void placesFromNoneToMost() {
        about("Promise 7: how many placements a chord has");
        due("none", 0, answer(() -> piece(NO_ROOM).places(0)));
        // B and A sharp over C at 60, where the tenor has to be: 71 and 70 are left.
        due("one", 1, answer(() -> piece(new int[] {0, 5, 0, 7, 0, 6, 1}).places(0)));
        due("three", 3, answer(() -> piece(new int[] {6, 4, 0, 8, 2}).places(0)));
        // B sharp has C's class.
        due("the most, of C, D and G", 44,
                answer(() -> piece(new int[] {4, 3, 0, 3, 1}).places(0)));
        due("it is not whole", STATE, answer(() -> piece(new int[] {4, 3, 0, 8, 0}).places(0)));
    }

    private static void placesGoWithTheChord() {
        about("Promise 7: the placements of a chord as it is now");
        FiguredBass piece = piece(C);
        due("C", 40, answer(() -> piece.places(0)));
        piece.figure(0, 8, 1);
        due("with C sharp", 18, answer(() -> piece.places(0)));
        piece.bass(0, 0, 4, 0);
        due("C again", 40, answer(() -> piece.places(0)));
        piece.figure(0, 8, 0);
        due("not whole", STATE, answer(() -> piece.places(0)));
        piece.key(7, false);
        due("C sharp by the key", 18, answer(() -> piece.places(0)));
        piece.key(0, false);
        due("not whole again", STATE, answer(() -> piece.places(0)));
        piece.bass(0, 0, 5, 0);
        due("over a high C", "64 60 60", placement(piece, 0, 0));
    }

    private static void placeFirstAndLast() {
        about("Promise 8: there is no such placement");
        FiguredBass piece = new FiguredBass();
        write(piece, 0, 0, 4, 0);
        due("the first one of C", "60 55 52", placement(piece, 0, 0));
        due("the last one of C", "79 72 64", placement(piece, 0, 39));
        due("the one behind it", INDEX, answer(() -> piece.place(0, 40, 0)));
        write(piece, 7, 4, 3, 0, 3, 1);
        due("the first one of C, D and G", "60 55 48", placement(piece, 7, 0));
        due("the last one of C, D and G", "79 72 67", placement(piece, 7, 43));
        due("the one behind it", INDEX, answer(() -> piece.place(7, 44, 0)));
        write(piece, 1, 0, 5, 0, 7, 0, 6, 1);
        due("the only one", "71 70 60", placement(piece, 1, 0));
        due("the one behind it", INDEX, answer(() -> piece.place(1, 1, 0)));
        write(piece, 1, NO_ROOM);
        due("the first one of none", INDEX, answer(() -> piece.place(1, 0, 0)));
        about("Promise 8: a voice (0 .. 2)");
        due("voice 0", 60, answer(() -> piece.place(0, 0, 0)));
        due("voice 2", 52, answer(() -> piece.place(0, 0, 2)));
        due("voice 3", ARGUMENT, answer(() -> piece.place(0, 0, 3)));
        due("voice -1", ARGUMENT, answer(() -> piece.place(0, 0, -1)));
    }

    private static void realiseOneChord() {
        about("Promise 9: the realisation of one chord");
        FiguredBass piece = piece(C);
        due("no fee", 0, answer(piece::realise));
        due("the first placement", "60 55 52", laidOut(piece, 0));
        FiguredBass none = piece(NO_ROOM);
        due("none at the first chord", -1, answer(none::realise));
        due("nothing is laid out", STATE, answer(() -> none.note(0, 3)));
        due("nor has it a cost", STATE, answer(() -> none.cost(0)));
    }

    private static void realiseEightChords() {
        about("Promise 9: the realisation of eight chords");
        FiguredBass piece = piece(C, C, C, C, C, C, C, C);
        due("none moves", 0, answer(piece::realise));
        due("the first placement at first", "60 55 52", laidOut(piece, 0));
        due("the first placement at last", "60 55 52", laidOut(piece, 7));
        // The alto goes by 2 and the tenor by 1, from G and E to A and F and back.
        FiguredBass moved = piece(C, F, C, F, C, F, C, F);
        due("3 for each of seven moves", 21, answer(moved::realise));
        due("chord 0", "60 55 52", laidOut(moved, 0));
        due("chord 7", "60 57 53", laidOut(moved, 7));
    }

    private static void realiseTakesTheFirstOfSeveral() {
        about("Promise 9: of several that in which the first chord's placement comes first");
        FiguredBass piece = piece(G, new int[] {3, 3, 0, 4, 0});
        due("G, then F with 4", 7, answer(piece::realise));
        // 74 62 59 and 71 65 60 cost 7, too, and there the second chord's comes first.
        due("the first chord", "71 62 62", laidOut(piece, 0));
        due("the second chord", "72 65 59", laidOut(piece, 1));
        about("Promise 9: then the second one's, and so on");
        FiguredBass next = piece(new int[] {1, 4, 0, 4, 0}, new int[] {0, 3, 0, 4, 0});
        due("D with 4, then C with 4", 5, answer(next::realise));
        due("the first chord", "67 57 55", laidOut(next, 0));
        // 67 60 53 is as near.
        due("the second chord", "65 60 55", laidOut(next, 1));
    }

    private static void realiseWeighsFees() {
        about("THE COST: of a leading note's class 9, of the seventh's class 9");
        // The seventh B has to stay, over a B that leads and is the seventh; A goes to E.
        FiguredBass both = piece(new int[] {0, 4, 0, 7, 0, 6, 0}, new int[] {6, 3, 0, 2, 0, 4, 0});
        due("9 and 9, and 5", 23, answer(both::realise));
        due("the second chord", 23, answer(() -> both.cost(1)));
        about("THE COST: for each voice but the first one");
        // To three D's the voices would go by 3, but their fee is 6.
        FiguredBass thirds = piece(G, new int[] {6, 4, 0});
        due("3 for two D's, and 5", 8, answer(thirds::realise));
        due("the second chord", "65 62 62", laidOut(thirds, 1));
        FiguredBass leading = piece(new int[] {6, 4, 0, 8, 2});
        due("two B's, not three", 9, answer(leading::realise));
        due("though three would come first", "70 59 59", placement(leading, 0, 0));
        due("the second placement", "70 70 59", laidOut(leading, 0));
        about("Its THIRD is the 3's tone, if that is not the seventh");
        // G is the seventh, by 4 and 3, and no third: to double it costs 9, not 12.
        FiguredBass piece = new FiguredBass();
        piece.key(-4, true);
        piece.length(2);
        write(piece, 0, 6, 4, 0, 8, 0);
        write(piece, 1, 2, 3, 0, 3, 0, 4, 0);
        due("9, and 9", 18, answer(piece::realise));
        due("G is doubled", "68 67 55", laidOut(piece, 1));
    }

    /** Eight chords of which one can't be reached, since the bass goes from B to G. */
    private static FiguredBass brokenAt(int chord) {
        FiguredBass piece = piece(C, C, C, C, C, C, C, C);
        write(piece, chord - 1, B6);
        write(piece, chord, G);
        return piece;
    }

    private static void realiseSaysEachChord() {
        about("Promise 9: -1 less the least chord up to which none can be written");
        for (int i = 1; i < 8; i++) {
            FiguredBass piece = brokenAt(i);
            due("a rule that breaks at chord " + i, -1 - i, answer(piece::realise));
            due("nothing is laid out", STATE, answer(() -> piece.note(0, 0)));
            due("again", -1 - i, answer(piece::realise));
            piece.length(i);
            due("up to the chord before", true, piece.realise() >= 0);
        }
        for (int i = 0; i < 8; i++) {
            FiguredBass piece = piece(C, C, C, C, C, C, C, C);
            due("placements of all chords", 0, answer(piece::realise));
            write(piece, i, NO_ROOM);
            due("no placement of chord " + i + " any more", -1 - i, answer(piece::realise));
            if (i > 0) {
                piece.length(i);
                due("up to the chord before", 0, answer(piece::realise));
            }
        }
    }

    private static void realiseSaysTheLeastChord() {
        about("Promise 9: the LEAST chord up to which none can be written");
        FiguredBass piece = brokenAt(7);
        write(piece, 4, NO_ROOM);
        due("chords 4 and 7", -5, answer(piece::realise));
        write(piece, 1, B6);
        write(piece, 2, G);
        due("chords 2, 4 and 7", -3, answer(piece::realise));
        write(piece, 0, NO_ROOM);
        due("chords 0, 2, 4 and 7", -1, answer(piece::realise));
    }

    private static void realiseSaysWhereAWayEnds() {
        about("Promise 9: the least chord UP TO which none can be written");
        // Over the first chord B is in the soprano, as the seventh and leading. Over E it has to
        // stay, and from there it can't go to D, F or A, as other placements of E can.
        int[] held = {0, 5, 0, 7, 0, 6, 1};
        int[] e = {2, 4, 0};
        int[] d = {1, 4, 0};
        due("the first two", true, piece(held, e).realise() >= 0);
        due("the last two", true, piece(e, d).realise() >= 0);
        due("all three", -3, answer(() -> piece(held, e, d).realise()));
        due("and a fourth one", -3, answer(() -> piece(held, e, d, new int[] {6, 3, 0}).realise()));
        about("Promise 9: the least chord, where one placement alone can be reached");
        due("the only placement of the first chord", -2,
                answer(() -> piece(held, new int[] {5, 3, 0, 3, 3}).realise()));
        due("the only placement of the second chord", -3,
                answer(() -> piece(new int[] {4, 3, 0, 5, 0, 3, 0}, held,
                        new int[] {1, 4, -1, 3, 0}).realise()));
        due("the only placement of the first chord, and a way on", -3,
                answer(() -> piece(held, new int[] {3, 3, 0, 7, 2, 4, 0},
                        new int[] {0, 4, 0, 2, 0}).realise()));
    }

    private static void realiseNeedsWholeChords() {
        about("Promise 9: one of the n chords is not whole");
        for (int i = 0; i < 8; i++) {
            FiguredBass piece = piece(C, C, C, C, C, C, C, C);
            piece.figure(i, 8, 0);
            due("chord " + i + " has a class twice", STATE, answer(piece::realise));
            if (i > 0) {
                piece.length(i);
                due("it does not count", 0, answer(piece::realise));
            }
        }
        FiguredBass piece = brokenAt(1);
        piece.figure(7, 8, 0);
        due("the last one, behind one that can't be reached", STATE, answer(piece::realise));
    }

    private static void noteFirstAndLast() {
        about("Promise 10: a voice (0 .. 3), one of the n");
        FiguredBass piece = cadence();
        piece.realise();
        due("the first chord, voice 0", 64, answer(() -> piece.note(0, 0)));
        due("the first chord, voice 3", 48, answer(() -> piece.note(0, 3)));
        due("the last chord, voice 0", 64, answer(() -> piece.note(3, 0)));
        due("the last chord, voice 3", 36, answer(() -> piece.note(3, 3)));
        due("the chord behind it", ARGUMENT, answer(() -> piece.note(4, 0)));
        due("voice 4", ARGUMENT, answer(() -> piece.note(0, 4)));
        due("voice -1", ARGUMENT, answer(() -> piece.note(0, -1)));
        FiguredBass long8 = piece(C, C, C, C, C, C, C, F);
        long8.realise();
        due("the last of eight", 41, answer(() -> long8.note(7, 3)));
        due("the one behind it", ARGUMENT, answer(() -> long8.note(8, 3)));
    }

    private static void lost(String what, Runnable write, FiguredBass piece) {
        piece.realise();
        due("before " + what, 41, answer(() -> piece.note(1, 3)));
        due("before " + what, 3, answer(() -> piece.cost(1)));
        write.run();
        due("note after " + what, STATE, answer(() -> piece.note(1, 3)));
        due("cost after " + what, STATE, answer(() -> piece.cost(1)));
        due("no voice after " + what, ARGUMENT, answer(() -> piece.note(1, 4)));
        due("no chord after " + what, ARGUMENT, answer(() -> piece.cost(4)));
    }

    private static void noteIsLostByWrites() {
        FiguredBass piece = cadence();
        about("Promise 10: the key was written since");
        lost("another key", () -> piece.key(0, true), piece);
        piece.key(0, false);
        lost("the same key", () -> piece.key(0, false), piece);
        about("Promise 10: n was written since");
        lost("the same length", () -> piece.length(4), piece);
        about("Promise 10: a bass was written since");
        lost("the same bass", () -> piece.bass(0, 0, 4, 0), piece);
        lost("a bass that does not count", () -> piece.bass(7, 0, 4, 0), piece);
        about("Promise 10: a figure was written since");
        lost("a figure that changes no tone", () -> piece.figure(0, 3, 0), piece);
        lost("a figure that does not count", () -> piece.figure(7, 8, 0), piece);
    }

    private static void noteIsKeptByOthers() {
        about("Promise 10: what was laid out, when none of those was written since");
        FiguredBass piece = cadence();
        piece.realise();
        sing(piece, 0, 0, 127, 0);
        piece.faults();
        piece.fault(0, 0);
        piece.spell(2, 2);
        piece.places(2);
        piece.place(2, 0, 0);
        piece.note(0, 0);
        piece.cost(0);
        due("a refused key", ARGUMENT, done(() -> piece.key(8, false)));
        due("a refused length", ARGUMENT, done(() -> piece.length(0)));
        due("a refused bass", ARGUMENT, answer(() -> piece.bass(0, 0, 2, 0)));
        due("a refused figure", STATE, answer(() -> piece.figure(2, 7, 0)));
        due("chord 2", "65 59 55", laidOut(piece, 2));
        due("its cost", 3, answer(() -> piece.cost(2)));
    }

    private static void noteComesBack() {
        about("Promise 10: what was laid out last");
        FiguredBass piece = cadence();
        piece.realise();
        piece.length(2);
        due("the second chord", STATE, answer(() -> piece.note(1, 0)));
        due("the third chord does not count", ARGUMENT, answer(() -> piece.note(2, 0)));
        due("realise", 3, answer(piece::realise));
        due("the first chord", "60 55 52", laidOut(piece, 0));
        due("the second chord", "60 57 53", laidOut(piece, 1));
        due("the third chord does not count", ARGUMENT, answer(() -> piece.note(2, 0)));
        piece.length(4);
        due("what was laid out before that is gone", STATE, answer(() -> piece.note(2, 0)));
        due("realise", 8, answer(piece::realise));
        due("the third chord", "65 59 55", laidOut(piece, 2));
    }

    private static void costFirstAndLast() {
        about("Promise 11: what chord i adds: its fees, and how far voices 0 to 2 went to it");
        FiguredBass piece = cadence();
        due("before a realisation", STATE, answer(() -> piece.cost(0)));
        piece.realise();
        due("the first chord, to which none went", 0, answer(() -> piece.cost(0)));
        due("the last chord", 2, answer(() -> piece.cost(3)));
        due("the chord behind it", ARGUMENT, answer(() -> piece.cost(4)));
        due("the chord before the first", ARGUMENT, answer(() -> piece.cost(-1)));
        FiguredBass fees = piece(new int[] {6, 4, 0, 8, 2}, new int[] {6, 4, 0, 8, 2});
        due("fees alone", 18, answer(fees::realise));
        due("the first chord's fees", 9, answer(() -> fees.cost(0)));
        due("the last chord's fees", 9, answer(() -> fees.cost(1)));
    }

    private static void pupilTakesItsEnds() {
        about("Promise 12: a voice (0 .. 2) of a chord, 0 .. 127");
        FiguredBass piece = piece(C, C, C, C, C, C, C, C);
        due("the first chord, voice 0, 0", 0, done(() -> piece.pupil(0, 0, 0)));
        due("the last chord, voice 2, 127", 0, done(() -> piece.pupil(7, 2, 127)));
        due("the first chord, voice 2, 127", 0, done(() -> piece.pupil(0, 2, 127)));
        due("the last chord, voice 0, 0", 0, done(() -> piece.pupil(7, 0, 0)));
        due("what is out of range", "0.0.0 0.0.2 7.0.0 7.0.2", faultsOfKind(piece, 0));
        due("what crosses", "0.1.1 0.1.6 7.1.1 7.1.6", faultsOfKind(piece, 1));
        due("what is too wide", "0.2.1 0.2.6 7.2.1 7.2.6", faultsOfKind(piece, 2));
    }

    private static void pupilIsKept() {
        about("Promise 12: the pupil's sound");
        FiguredBass piece = new FiguredBass();
        due("of a chord without a bass", 0, done(() -> sing(piece, 0, 64, 60, 55)));
        due("of a chord that does not count", 0, done(() -> sing(piece, 1, 64, 60, 55)));
        piece.bass(0, 0, 4, 0);
        due("it is kept when the bass is written", "", listFaults(piece));
        piece.bass(1, 0, 4, 0);
        piece.length(2);
        due("it is kept until the chord counts", "", listFaults(piece));
        piece.key(7, true);
        piece.key(0, false);
        piece.realise();
        due("it is kept by the key and a realisation", "", listFaults(piece));
        piece.pupil(1, 2, 60);
        due("the last one is what counts", "", listFaults(piece));
        piece.pupil(1, 0, 67);
        due("a fault comes", "1.8.2", listFaults(piece));
        piece.pupil(1, 0, 64);
        due("a fault goes", "", listFaults(piece));
    }

    private static void faultsFromNoneToMany() {
        about("Promise 13: how many faults");
        FiguredBass piece = piece(C);
        sing(piece, 0, 64, 60, 55);
        due("none", 0, answer(piece::faults));
        sing(piece, 0, 67, 60, 55);
        due("one", 1, answer(piece::faults));
        // The first of each two chords has 3, 3, 2, 1 and 3 faults of the kinds 0, 1, 2, 3 and 8,
        // the second one 3, 3, 2, 0 and 2, and all pairs of voices go in parallels, 7 times.
        int count = 4 * 12 + 4 * 10 + 7 * 6;
        FiguredBass many = many();
        due("many", count, answer(many::faults));
        due("again", count, answer(many::faults));
        due("the last one", "7 8 3", many.fault(count - 1, 0) + " " + many.fault(count - 1, 1)
                + " " + many.fault(count - 1, 2));
        due("the one behind it", INDEX, answer(() -> many.fault(count, 0)));
    }

    /** F sharp and G in turns, with 6 5, over which every voice is lower than the next one. */
    private static FiguredBass many() {
        int[] fSharp = {3, 4, 1, 6, 0, 5, 0};
        int[] g = {4, 4, 0, 6, 0, 5, 0};
        FiguredBass piece = piece(fSharp, g, fSharp, g, fSharp, g, fSharp, g);
        for (int i = 0; i < 8; i += 2) {
            sing(piece, i, 1, 18, 42);
            sing(piece, i + 1, 2, 19, 43);
        }
        return piece;
    }

    private static void faultsNeedWholeChords() {
        about("Promise 13: one of the n chords is not whole");
        for (int i = 0; i < 8; i++) {
            FiguredBass piece = piece(C, C, C, C, C, C, C, C);
            piece.figure(i, 8, 0);
            due("chord " + i + " has a class twice", STATE, answer(piece::faults));
            if (i > 0) {
                piece.length(i);
                due("it does not count", i, answer(piece::faults));
            }
        }
        FiguredBass piece = piece(C);
        piece.length(2);
        due("a chord without a bass", STATE, answer(piece::faults));
        due("none were looked for", INDEX, answer(() -> piece.fault(0, 0)));
    }

    private static void faultFirstAndLast() {
        about("Promise 14: there is no such fault");
        FiguredBass piece = piece(C, C);
        sing(piece, 1, 67, 64, 58);
        due("none were looked for", INDEX, answer(() -> piece.fault(0, 0)));
        due("two faults", 2, answer(piece::faults));
        due("the first one's chord", 0, answer(() -> piece.fault(0, 0)));
        due("the first one's kind", 8, answer(() -> piece.fault(0, 1)));
        due("the first one's tone", 2, answer(() -> piece.fault(0, 2)));
        due("the last one's chord", 1, answer(() -> piece.fault(1, 0)));
        due("the last one's kind", 3, answer(() -> piece.fault(1, 1)));
        due("the last one's voice", 2, answer(() -> piece.fault(1, 2)));
        due("the one behind it", INDEX, answer(() -> piece.fault(2, 0)));
        due("the one before the first", INDEX, answer(() -> piece.fault(-1, 0)));
        about("Promise 14: what is not 0 .. 2");
        due("3", ARGUMENT, answer(() -> piece.fault(1, 3)));
        due("-1", ARGUMENT, answer(() -> piece.fault(0, -1)));
        about("Promise 14: there is no such fault, when none was found");
        sing(piece, 0, 64, 60, 55);
        sing(piece, 1, 64, 60, 55);
        due("no fault", 0, answer(piece::faults));
        due("the first one of none", INDEX, answer(() -> piece.fault(0, 0)));
    }

    private static void faultsAreOrdered() {
        about("Promise 14: Faults are ordered by chord, kind, voices");
        // F with 2 is F, D, B and G; G sharp with 6 is G sharp, E and B.
        FiguredBass piece = piece(new int[] {3, 4, 0, 2, 0}, new int[] {4, 4, 1, 6, 0});
        sing(piece, 0, 83, 57, 65);
        sing(piece, 1, 88, 64, 68);
        due("all kinds", "0.0.0 0.1.6 0.2.1 0.3.1 0.4.11 0.5.0 0.6.2 0.6.3 0.7.2 0.7.3 0.8.1 0.8.3"
                + " 1.0.0 1.0.2 1.1.6 1.2.1 1.8.2", listFaults(piece));
    }

    private static void faultsOfKind8() {
        about("Promise 14: 8 tone v (not optional) is in no voice");
        FiguredBass piece = piece(new int[] {4, 3, 0, 7, 0});
        sing(piece, 0, 67, 67, 55);
        due("tones 1 and 3, and 2 is optional", "0.8.1 0.8.3", listFaults(piece));
        piece.figure(0, 5, 0);
        piece.figure(0, 3, 0);
        due("tones 1, 2 and 3", "0.8.1 0.8.2 0.8.3", listFaults(piece));
        sing(piece, 0, 65, 62, 59);
        due("tone 0 is in the bass", "", listFaults(piece));
        sing(piece, 0, 101, 2, 35);
        due("a tone in any octave", "", faultsOfKind(piece, 8));
        due("and of any voice", "", faultsOfKind(piece, 3));
    }

    private static void faultsFoundLastStay() {
        about("Promise 14: of fault k that was found LAST");
        FiguredBass piece = piece(C, C);
        due("two faults", 2, answer(piece::faults));
        sing(piece, 1, 64, 60, 55);
        piece.key(7, true);
        piece.bass(1, 3, 3, 0);
        piece.length(1);
        piece.realise();
        due("the last one, after writes", 1, answer(() -> piece.fault(1, 0)));
        due("a refused look", STATE, answer(() -> {
            piece.length(3);
            return piece.faults();
        }));
        due("the last one, after a refused look", 8, answer(() -> piece.fault(1, 1)));
        piece.key(0, false);
        piece.length(1);
        due("one fault", 1, answer(piece::faults));
        due("the last one is gone", INDEX, answer(() -> piece.fault(1, 0)));
        due("the first one is there", "0.8.2", listFound(piece, 1));
    }
}
