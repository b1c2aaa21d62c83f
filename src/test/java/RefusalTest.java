import java.util.ArrayList;
import java.util.List;
import java.util.function.Supplier;
import java.util.function.ToIntFunction;

/**
 * Every reason for which a call is refused, with the first values that are refused on both sides,
 * and the least and the greatest int. After each refused call all others are asked, and have to
 * answer as on an object that did not get the refused one.
 */
public final class RefusalTest extends Checks {
    private static final int NO_BASS = 4;
    private static final int FULL = 5;
    private static final int NOT_WHOLE = 6;
    private static final int PLAIN = 7;
    private static final int FOUND = 13;

    private static Supplier<FiguredBass> stage = RefusalTest::busy;
    private static String untouched = "";

    public static void main(String[] args) {
        on(RefusalTest::busy);
        about("the stage");
        due("faults that were found", "0.0.2 0.1.1 0.1.11 0.2.6 0.3.0 0.4.7 0.5.0"
                + " 2.3.1 2.3.2 2.6.0 2.8.3 3.3.1 3.8.2", listFoundLast(busy()));
        key();
        length();
        bassArguments();
        bassSound();
        figureArguments();
        figureState();
        spell();
        places();
        place();
        noteAndCostArguments();
        pupil();
        fault();
        on(FiguredBass::new);
        newObject();
        on(RefusalTest::tooLong);
        realiseAndFaults("a chord without a bass", NO_BASS);
        noteAndCostState();
        on(RefusalTest::notWhole);
        realiseAndFaults("a chord that is not whole", 0);
        on(RefusalTest::unreachable);
        noteAndCostState();
        finish("what is refused is as due");
    }

    /** Four chords count; they are laid out and their faults are found. */
    private static FiguredBass busy() {
        FiguredBass piece = cadence();
        write(piece, FULL, 5, 3, 0, 6, 0, 5, 1, 4, 2);
        write(piece, NOT_WHOLE, 0, 4, 0, 8, 0);
        write(piece, PLAIN, 0, 4, 0);
        sing(piece, 0, 71, 72, 40);
        sing(piece, 1, 69, 65, 53);
        sing(piece, 2, 65, 61, 52);
        sing(piece, 3, 67, 63, 60);
        sing(piece, 7, 64, 60, 55);
        piece.faults();
        piece.realise();
        return piece;
    }

    private static FiguredBass tooLong() {
        FiguredBass piece = busy();
        piece.length(NO_BASS + 1);
        return piece;
    }

    private static FiguredBass notWhole() {
        FiguredBass piece = busy();
        piece.figure(0, 8, 0);
        return piece;
    }

    /** The third chord can't be reached, since the bass goes from B to G. */
    private static FiguredBass unreachable() {
        FiguredBass piece = busy();
        write(piece, 1, 6, 3, 0, 6, 0);
        piece.realise();
        return piece;
    }

    private static void on(Supplier<FiguredBass> made) {
        stage = made;
        untouched = everything(made.get());
    }

    /** What all calls answer, in fewer than 512 calls. */
    private static String everything(FiguredBass piece) {
        List<String> all = new ArrayList<>();
        for (int i = 0; i < 8; i++) {
            int chord = i;
            all.add("tones " + tones(piece, i));
            all.add("places " + answer(() -> piece.places(chord)));
            all.add("place " + answer(() -> piece.place(chord, 0, 2)));
            all.add("cost " + answer(() -> piece.cost(chord)));
            for (int v = 0; v < 4; v++) {
                int voice = v;
                all.add(answer(() -> piece.note(chord, voice)));
            }
        }
        all.add("found " + listFoundLast(piece));
        all.add("faults " + answer(piece::faults) + " " + listFoundLast(piece));
        all.add("realise " + answer(piece::realise));
        for (int i = 0; i < 8; i++) {
            int chord = i;
            all.add(answer(() -> piece.note(chord, 0)));
            all.add("figure " + answer(() -> piece.figure(chord, 9, 3)));
        }
        return String.join("\n", all);
    }

    private static String listFoundLast(FiguredBass piece) {
        int count = 0;
        boolean there = true;
        while (there && count < 60) {
            int k = count;
            there = !answer(() -> piece.fault(k, 0)).equals(INDEX);
            count += there ? 1 : 0;
        }
        return listFound(piece, count);
    }

    private static void refuses(String what, String want, ToIntFunction<FiguredBass> call) {
        FiguredBass piece = stage.get();
        due(what, want, answer(() -> call.applyAsInt(piece)));
        due("what others answer behind " + what, untouched, everything(piece));
    }

    private static int[] all(int... values) {
        return values;
    }

    private static void key() {
        about("key: fifths is not -7 .. 7");
        for (int fifths : all(LEAST, -9, -8, 8, 9, GREATEST)) {
            for (boolean minor : new boolean[] {false, true}) {
                refuses("key " + fifths + " " + minor, ARGUMENT, piece -> {
                    piece.key(fifths, minor);
                    return 0;
                });
            }
        }
    }

    private static void length() {
        about("length: it is not 1 .. 8");
        for (int n : all(LEAST, -1, 0, 9, 10, GREATEST)) {
            refuses("length " + n, ARGUMENT, piece -> {
                piece.length(n);
                return 0;
            });
        }
    }

    private static void bassArguments() {
        about("bass: there is no such chord (0 .. 7)");
        for (int chord : NO_CHORDS) {
            refuses("chord " + chord, ARGUMENT, piece -> piece.bass(chord, 0, 4, 0));
        }
        about("bass: there is no such letter");
        for (int letter : all(LEAST, -1, 7, 8, GREATEST)) {
            refuses("letter " + letter, ARGUMENT, piece -> piece.bass(0, letter, 4, 0));
        }
        about("bass: there is no such alteration");
        for (int alteration : all(LEAST, -2, 2, 3, GREATEST)) {
            refuses("alteration " + alteration, ARGUMENT,
                    piece -> piece.bass(0, 4, 3, alteration));
        }
    }

    private static void bassSound() {
        about("bass: it does not sound at 36 to 60");
        refuses("B at 35", ARGUMENT, piece -> piece.bass(0, 6, 2, 0));
        refuses("C flat at 35", ARGUMENT, piece -> piece.bass(0, 0, 3, -1));
        refuses("C sharp at 61", ARGUMENT, piece -> piece.bass(0, 0, 5, 1));
        refuses("D flat at 61", ARGUMENT, piece -> piece.bass(0, 1, 5, -1));
        for (int octave : all(LEAST, -4, -1, 0, 2, 6, GREATEST)) {
            refuses("octave " + octave, ARGUMENT, piece -> piece.bass(0, 0, octave, 0));
        }
        about("bass: it does not sound at 36 to 60, where 12 octaves turn around an int");
        // 4 and a quarter, a half and three quarters of all ints: they would turn to 48.
        for (int octave : all(1073741828, -2147483644, -1073741820)) {
            refuses("octave " + octave, ARGUMENT, piece -> piece.bass(0, 0, octave, 0));
        }
        // These would turn to 44 and 40.
        for (int octave : all(357913945, 715827886)) {
            refuses("octave " + octave, ARGUMENT, piece -> piece.bass(0, 0, octave, 0));
        }
        for (int letter = 0; letter < 7; letter++) {
            int high = letter;
            refuses("the greatest octave of letter " + letter, ARGUMENT,
                    piece -> piece.bass(0, high, GREATEST, 1));
            refuses("the least octave of letter " + letter, ARGUMENT,
                    piece -> piece.bass(0, high, LEAST, -1));
        }
    }

    private static void figureArguments() {
        about("figure: there is no such chord");
        for (int chord : NO_CHORDS) {
            refuses("chord " + chord, ARGUMENT, piece -> piece.figure(chord, 6, 0));
        }
        about("figure: there is no such number");
        for (int number : all(LEAST, -1, 0, 1, 10, 11, GREATEST)) {
            refuses("number " + number, ARGUMENT, piece -> piece.figure(0, number, 0));
            refuses("number " + number + " without a bass", ARGUMENT,
                    piece -> piece.figure(NO_BASS, number, 0));
            refuses("number " + number + " behind 3", ARGUMENT,
                    piece -> piece.figure(FULL, number, 0));
        }
        about("figure: there is no such sign");
        for (int sign : all(LEAST, -1, 4, 5, GREATEST)) {
            refuses("sign " + sign, ARGUMENT, piece -> piece.figure(0, 6, sign));
            refuses("sign " + sign + " of a 7 behind a 7", ARGUMENT,
                    piece -> piece.figure(2, 7, sign));
        }
    }

    private static void figureState() {
        about("figure: it has 3");
        for (int number = 2; number <= 9; number++) {
            int fourth = number;
            refuses(number + " behind 6 5 4", STATE, piece -> piece.figure(FULL, fourth, 0));
        }
        about("figure: it has no bass");
        refuses("6 without a bass", STATE, piece -> piece.figure(NO_BASS, 6, 0));
        about("figure: it has this number");
        for (int i = 0; i <= 3; i++) {
            int sign = i;
            refuses("7 behind 7 with sign " + sign, STATE, piece -> piece.figure(2, 7, sign));
        }
        refuses("8 behind 8", STATE, piece -> piece.figure(NOT_WHOLE, 8, 0));
    }

    private static void spell() {
        about("spell: there is no such chord");
        for (int chord : NO_CHORDS) {
            refuses("chord " + chord, ARGUMENT, piece -> piece.spell(chord, 0));
        }
        about("spell: it has no bass");
        for (int k : all(LEAST, -1, 0, GREATEST)) {
            refuses("tone " + k, STATE, piece -> piece.spell(NO_BASS, k));
        }
        about("spell: there is no such tone");
        for (int k : all(LEAST, -1, 3, 4, GREATEST)) {
            refuses("tone " + k + " of three", INDEX, piece -> piece.spell(PLAIN, k));
        }
        for (int k : all(LEAST, -1, 4, 5, GREATEST)) {
            refuses("tone " + k + " of four", INDEX, piece -> piece.spell(FULL, k));
        }
        for (int k : all(LEAST, -1, 2, 3, GREATEST)) {
            refuses("tone " + k + " of two", INDEX, piece -> piece.spell(NOT_WHOLE, k));
        }
    }

    private static void places() {
        about("places: there is no such chord");
        for (int chord : NO_CHORDS) {
            refuses("chord " + chord, ARGUMENT, piece -> piece.places(chord));
        }
        about("places: it is not whole");
        refuses("no bass", STATE, piece -> piece.places(NO_BASS));
        refuses("a class twice", STATE, piece -> piece.places(NOT_WHOLE));
    }

    private static void place() {
        about("place: there is no such chord");
        for (int chord : NO_CHORDS) {
            refuses("chord " + chord, ARGUMENT, piece -> piece.place(chord, 0, 0));
        }
        about("place: there is no such voice");
        for (int voice : all(LEAST, -1, 3, 4, GREATEST)) {
            refuses("voice " + voice, ARGUMENT, piece -> piece.place(0, 0, voice));
            refuses("voice " + voice + " without a bass", ARGUMENT,
                    piece -> piece.place(NO_BASS, 0, voice));
            refuses("voice " + voice + " of no placement", ARGUMENT,
                    piece -> piece.place(0, GREATEST, voice));
        }
        about("place: it is not whole");
        for (int k : all(LEAST, -1, 0, GREATEST)) {
            refuses("placement " + k + " without a bass", STATE,
                    piece -> piece.place(NO_BASS, k, 0));
            refuses("placement " + k + " with a class twice", STATE,
                    piece -> piece.place(NOT_WHOLE, k, 0));
        }
        about("place: there is no such placement");
        for (int k : all(LEAST, -1, 40, 41, GREATEST)) {
            refuses("placement " + k + " of 40", INDEX, piece -> piece.place(0, k, 0));
            refuses("placement " + k + " of 40", INDEX, piece -> piece.place(PLAIN, k, 2));
        }
    }

    private static void noteAndCostArguments() {
        about("note: there is no such voice");
        for (int voice : all(LEAST, -1, 4, 5, GREATEST)) {
            refuses("voice " + voice, ARGUMENT, piece -> piece.note(0, voice));
        }
        about("note and cost: the chord is not one of the n");
        for (int chord : all(LEAST, -1, 4, 5, 7, 8, GREATEST)) {
            refuses("note of chord " + chord, ARGUMENT, piece -> piece.note(chord, 0));
            refuses("cost of chord " + chord, ARGUMENT, piece -> piece.cost(chord));
        }
    }

    private static void pupil(int chord, int voice, int sound) {
        refuses("pupil " + chord + " " + voice + " " + sound, ARGUMENT, piece -> {
            piece.pupil(chord, voice, sound);
            return 0;
        });
    }

    private static void pupil() {
        about("pupil: there is no such chord");
        for (int chord : NO_CHORDS) {
            pupil(chord, 0, 64);
        }
        about("pupil: there is no such voice");
        for (int voice : all(LEAST, -1, 3, 4, GREATEST)) {
            pupil(0, voice, 64);
        }
        about("pupil: it is not 0 .. 127");
        for (int sound : all(LEAST, -1, 128, 129, GREATEST)) {
            for (int voice = 0; voice < 3; voice++) {
                pupil(0, voice, sound);
                pupil(7, voice, sound);
            }
        }
    }

    private static void fault() {
        about("fault: there is no such fault");
        for (int k : all(LEAST, -1, FOUND, FOUND + 1, GREATEST)) {
            for (int what : all(LEAST, -1, 0, 1, 2, 3, GREATEST)) {
                refuses("fault " + k + " " + what, INDEX, piece -> piece.fault(k, what));
            }
        }
        about("fault: what is not 0 .. 2");
        for (int what : all(LEAST, -1, 3, 4, GREATEST)) {
            refuses("fault 0 " + what, ARGUMENT, piece -> piece.fault(0, what));
            refuses("the last fault " + what, ARGUMENT, piece -> piece.fault(FOUND - 1, what));
        }
    }

    private static void newObject() {
        about("A new object: one chord without a bass");
        refuses("realise", STATE, FiguredBass::realise);
        refuses("faults", STATE, FiguredBass::faults);
        for (int i = 0; i < 8; i++) {
            int chord = i;
            refuses("figure of chord " + i, STATE, piece -> piece.figure(chord, 6, 0));
            refuses("spell of chord " + i, STATE, piece -> piece.spell(chord, 0));
            refuses("places of chord " + i, STATE, piece -> piece.places(chord));
            refuses("place of chord " + i, STATE, piece -> piece.place(chord, 0, 0));
            refuses("note of chord " + i, i == 0 ? STATE : ARGUMENT,
                    piece -> piece.note(chord, 3));
            refuses("cost of chord " + i, i == 0 ? STATE : ARGUMENT, piece -> piece.cost(chord));
        }
        about("fault: there is no such fault (or none were looked for)");
        for (int k : all(LEAST, -1, 0, 1, GREATEST)) {
            refuses("fault " + k, INDEX, piece -> piece.fault(k, 0));
            refuses("fault " + k + " and what is not", INDEX, piece -> piece.fault(k, 3));
        }
    }

    private static void realiseAndFaults(String why, int chord) {
        about("realise and faults: one of the n chords is not whole");
        refuses("realise with " + why, STATE, FiguredBass::realise);
        refuses("faults with " + why, STATE, FiguredBass::faults);
        refuses("places of " + why, STATE, piece -> piece.places(chord));
    }

    private static void noteAndCostState() {
        about("note and cost: nothing is laid out");
        for (int v = 0; v < 4; v++) {
            int voice = v;
            refuses("note of voice " + v, STATE, piece -> piece.note(0, voice));
        }
        refuses("note of the last chord", STATE, piece -> piece.note(3, 0));
        refuses("cost of the first chord", STATE, piece -> piece.cost(0));
        refuses("cost of the last chord", STATE, piece -> piece.cost(3));
        refuses("note of no voice", ARGUMENT, piece -> piece.note(0, 4));
        refuses("note of no chord", ARGUMENT, piece -> piece.note(8, 0));
        refuses("cost of no chord", ARGUMENT, piece -> piece.cost(-1));
    }
}
