import java.util.ArrayList;
import java.util.List;
import java.util.concurrent.Callable;

/** What the hand-worked tests have in common: asking, comparing, and setting pieces up. */
abstract class Checks {
    static final String ARGUMENT = "throws.IllegalArgumentException";
    static final String STATE = "throws.IllegalStateException";
    static final String INDEX = "throws.IndexOutOfBoundsException";
    static final int LEAST = Integer.MIN_VALUE;
    static final int GREATEST = Integer.MAX_VALUE;
    static final int[] NO_CHORDS = {LEAST, -1, 8, 9, GREATEST};

    private static int wrong = 0;
    private static String sentence = "";

    /** Names the sentence of the document that the checks behind it are about. */
    static void about(String text) {
        sentence = text;
    }

    static void due(String what, Object want, Object got) {
        if (!String.valueOf(want).equals(String.valueOf(got))) {
            wrong++;
            System.out.println(sentence + ": " + what + " answered " + got + ", due is " + want);
        }
    }

    static void finish(String good) {
        System.out.println(wrong == 0 ? good : wrong + " answers are not as due");
        if (wrong != 0) {
            System.exit(1);
        }
    }

    static String answer(Callable<Integer> call) {
        try {
            return String.valueOf(call.call());
        } catch (Exception e) {
            return "throws." + e.getClass().getSimpleName();
        }
    }

    static String done(Runnable call) {
        return answer(() -> {
            call.run();
            return 0;
        });
    }

    /** Writes a chord: a letter, an octave and an alteration, then figures and their signs. */
    static void write(FiguredBass piece, int chord, int... parts) {
        piece.bass(chord, parts[0], parts[1], parts[2]);
        for (int k = 3; k < parts.length; k += 2) {
            piece.figure(chord, parts[k], parts[k + 1]);
        }
    }

    /** A piece in C major of which all the chords count, each as write takes it. */
    static FiguredBass piece(int[]... chords) {
        FiguredBass piece = new FiguredBass();
        piece.length(chords.length);
        for (int i = 0; i < chords.length; i++) {
            write(piece, i, chords[i]);
        }
        return piece;
    }

    /** C, F, G with 7, and C, in C major. */
    static FiguredBass cadence() {
        return piece(new int[] {0, 4, 0}, new int[] {3, 3, 0}, new int[] {4, 3, 0, 7, 0},
                new int[] {0, 3, 0});
    }

    static void figures(FiguredBass piece, int chord, int... numbers) {
        for (int number : numbers) {
            piece.figure(chord, number, 0);
        }
    }

    static String join(String name, int... numbers) {
        StringBuilder text = new StringBuilder(name);
        for (int number : numbers) {
            text.append(' ').append(number);
        }
        return text.toString();
    }

    static void sing(FiguredBass piece, int chord, int soprano, int alto, int tenor) {
        piece.pupil(chord, 0, soprano);
        piece.pupil(chord, 1, alto);
        piece.pupil(chord, 2, tenor);
    }

    /** Looks for faults, and tells chord, kind and voices of all. */
    static String listFaults(FiguredBass piece) {
        return listFound(piece, piece.faults());
    }

    static String listFound(FiguredBass piece, int count) {
        List<String> all = new ArrayList<>();
        for (int k = 0; k < count; k++) {
            all.add(piece.fault(k, 0) + "." + piece.fault(k, 1) + "." + piece.fault(k, 2));
        }
        return String.join(" ", all);
    }

    /** Looks for faults, and tells chord, kind and voices of those of one kind. */
    static String faultsOfKind(FiguredBass piece, int kind) {
        List<String> all = new ArrayList<>();
        for (String fault : listFaults(piece).split(" ")) {
            if (fault.contains("." + kind + ".")) {
                all.add(fault);
            }
        }
        return String.join(" ", all);
    }

    static String tones(FiguredBass piece, int chord) {
        List<String> all = new ArrayList<>();
        for (int k = 0; k < 5; k++) {
            int tone = k;
            String spelled = answer(() -> piece.spell(chord, tone));
            if (!spelled.equals(INDEX)) {
                all.add(spelled);
            }
        }
        return String.join(" ", all);
    }

    static String laidOut(FiguredBass piece, int chord) {
        return piece.note(chord, 0) + " " + piece.note(chord, 1) + " " + piece.note(chord, 2);
    }

    static String placement(FiguredBass piece, int chord, int k) {
        return piece.place(chord, k, 0) + " " + piece.place(chord, k, 1) + " "
                + piece.place(chord, k, 2);
    }

    /** Which class of a soprano may not go down, in the piece's key. */
    static int leadingClass(FiguredBass piece) {
        piece.length(2);
        piece.bass(0, 0, 3, 0);
        piece.bass(1, 0, 3, 0);
        int leading = -1;
        for (int i = 0; i < 12; i++) {
            sing(piece, 0, 60 + i, 60, 55);
            sing(piece, 1, 55 + i, 60, 55);
            if (faultsOfKind(piece, 5).equals("0.5.0")) {
                due("only one class leads", -1, leading);
                leading = i;
            }
        }
        return leading;
    }
}
