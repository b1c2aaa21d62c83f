import java.util.ArrayList;
import java.util.Comparator;
import java.util.List;
import java.util.Map;
import java.util.Random;
import java.util.concurrent.Callable;

/**
 * Compares every answer of long random runs with those of a second, slow program, which keeps
 * nothing but what was written and works everything out anew at each call.
 */
public final class OracleTest {
    private static final int RUNS = 800;
    private static final int CALLS = 512;
    private static final int MOST_PLACEMENTS = 44;
    private static final int[][] COMMON_ROWS = {
        {}, {}, {3}, {6}, {6}, {7}, {6, 5}, {4, 3}, {2}, {4, 2}, {4}, {6, 4}, {5, 4}, {5, 3},
        {8, 5, 3}, {9, 5, 3}, {6, 4, 3}, {5, 6}, {3, 4}, {7, 5, 3}, {7, 3}, {5}, {9, 8}, {2, 4, 6},
        {8, 7}, {5, 6, 7}, {7, 6}, {2, 4}, {7, 4},
    };
    private static int wrong = 0;

    public static void main(String[] args) {
        int laidOut = 0;
        int[] refusedAt = new int[8];
        for (int run = 0; run < RUNS; run++) {
            Pair pair = new Pair(run);
            pair.go();
            laidOut += pair.laidOut;
            for (int i = 0; i < 8; i++) {
                refusedAt[i] += pair.refusedAt[i];
            }
        }
        // The runs are worth nothing if they never come to what is hard.
        due("runs that lay out much", true, laidOut > 500);
        for (int i = 0; i < 8; i++) {
            due("runs that are refused at chord " + i, true, refusedAt[i] > 0);
        }
        goThroughAllChords();
        System.out.println(wrong == 0 ? "all answers agree" : wrong + " answers do not agree");
        if (wrong != 0) {
            System.exit(1);
        }
    }

    private static void due(String what, Object want, Object got) {
        if (!want.equals(got)) {
            wrong++;
            if (wrong <= 40) {
                System.out.println(what + " answered " + got + ", due is " + want);
            }
        }
    }

    private static String answer(Callable<Integer> call) {
        try {
            return String.valueOf(call.call());
        } catch (Exception e) {
            return "throws." + e.getClass().getSimpleName();
        }
    }

    /** Every bass with every set of tones: the placements, and that none has more than 44. */
    private static void goThroughAllChords() {
        int most = 0;
        for (int letter = 0; letter < 7; letter++) {
            for (int alteration = -1; alteration <= 1; alteration++) {
                for (int octave = 2; octave <= 5; octave++) {
                    int sound = 12 * octave + Oracle.BASES[letter] + alteration;
                    if (sound >= 36 && sound <= 60) {
                        most = Math.max(most, goThroughRows(letter, octave, alteration));
                    }
                }
            }
        }
        due("most placements", MOST_PLACEMENTS, most);
    }

    private static int goThroughRows(int letter, int octave, int alteration) {
        int most = 0;
        for (int fifths = -7; fifths <= 7; fifths++) {
            // A digit of the code is a number's sign, or 0 where the number is not written; short
            // rows descend, and so do these. The key bears only on figures that are added, and
            // those are added to at most two.
            for (int code = 0; code < 65536; code++) {
                if (countFigures(code) <= (fifths == 0 ? 3 : 2)) {
                    FiguredBass tested = new FiguredBass();
                    Oracle oracle = new Oracle();
                    tested.key(fifths, false);
                    oracle.key(fifths, false);
                    tested.bass(0, letter, octave, alteration);
                    oracle.bass(0, letter, octave, alteration);
                    most = Math.max(most, goThroughRow(tested, oracle, code));
                }
            }
        }
        return most;
    }

    private static int goThroughRow(FiguredBass tested, Oracle oracle, int code) {
        for (int number = 9; number >= 2; number--) {
            int sign = code >> 2 * (number - 2) & 3;
            if (sign != 0) {
                tested.figure(0, number, sign);
                oracle.figure(0, number, sign);
            }
        }
        String count = answer(() -> oracle.places(0));
        due("places of row " + code + " over " + oracle.basses[0][2], count,
                answer(() -> tested.places(0)));
        return count.startsWith("throws") ? 0 : Integer.parseInt(count);
    }

    private static int countFigures(int code) {
        int count = 0;
        for (int i = 0; i < 8; i++) {
            count += (code >> 2 * i & 3) != 0 ? 1 : 0;
        }
        return count;
    }

    /** The tested program and the oracle, which get the same calls. */
    private static final class Pair {
        private final FiguredBass tested = new FiguredBass();
        private final Oracle oracle = new Oracle();
        private final Random random;
        private final int run;
        private final int wildness;
        private int calls = 0;
        private int laidOut = 0;
        private final int[] refusedAt = new int[8];
        private int fifths = 0;

        Pair(int run) {
            this.run = run;
            random = new Random(run);
            wildness = new int[] {1, 3, 6, 12, 12, 12}[run % 6];
        }

        void go() {
            while (calls < CALLS) {
                switch (random.nextInt(13)) {
                    case 0: changeKey(); break;
                    case 1: changeLength(); break;
                    case 2: writePiece(); break;
                    case 3: writeChord(near(0, 7)); break;
                    case 12: writeCrowdedChord(near(0, 7)); break;
                    case 4: writeFigure(near(0, 7), near(2, 9), near(0, 3)); break;
                    case 5: askChord(); break;
                    case 6: realise(); break;
                    case 7: realise(); break;
                    case 8: writePupil(); break;
                    case 9: copyRealisation(); break;
                    case 10: askFaults(); break;
                    default: askNotes(); break;
                }
            }
        }

        /** Mostly a number from least to most, at times one outside. */
        private int near(int least, int most) {
            int kind = random.nextInt(10 * Math.max(3, wildness));
            if (kind == 0) {
                return least - 1;
            }
            if (kind == 1) {
                return most + 1;
            }
            if (kind == 2) {
                return random.nextInt();
            }
            return least + random.nextInt(most - least + 1);
        }

        private String same(String call, Callable<Integer> mine, Callable<Integer> theirs) {
            calls++;
            String want = answer(theirs);
            if (calls <= CALLS) {
                due("run " + run + ", call " + calls + ": " + call, want, answer(mine));
            }
            return want;
        }

        private void changeKey() {
            int f = random.nextBoolean() ? near(-7, 7) : near(-3, 3);
            boolean minor = random.nextBoolean();
            String got = same("key " + f + " " + minor,
                    () -> { tested.key(f, minor); return 0; },
                    () -> { oracle.key(f, minor); return 0; });
            if (got.equals("0")) {
                fifths = f;
            }
        }

        private void changeLength() {
            int n = near(1, 8);
            same("length " + n, () -> { tested.length(n); return 0; },
                    () -> { oracle.length(n); return 0; });
        }

        private void writePiece() {
            for (int i = 0; i < 8; i++) {
                writeChord(i);
            }
        }

        private void writeChord(int chord) {
            int letter = near(0, 6);
            int octave = random.nextInt(5) == 0 ? near(2, 5) : near(3, 4);
            boolean wild = random.nextInt(wildness) == 0;
            int alteration = wild ? near(-1, 1) : Oracle.keyAlteration(fifths, letter);
            writeBass(chord, letter, octave, alteration);
            for (int number : COMMON_ROWS[random.nextInt(COMMON_ROWS.length)]) {
                writeFigure(chord, number, random.nextInt(wildness) == 0 ? near(0, 3) : 0);
            }
        }

        /** A chord that has no placement, since its tenor can sing nothing but 60. */
        private void writeCrowdedChord(int chord) {
            if (random.nextInt(4) == 0) {
                writeBass(chord, 0, 5, 0);
                writeFigure(chord, 5, 1);
                writeFigure(chord, 6, 3);
                writeFigure(chord, 7, 2);
                realise();
                writeChord(chord);
            }
        }

        private void writeBass(int chord, int letter, int octave, int alteration) {
            same("bass " + chord + " " + letter + " " + octave + " " + alteration,
                    () -> tested.bass(chord, letter, octave, alteration),
                    () -> oracle.bass(chord, letter, octave, alteration));
        }

        private void writeFigure(int chord, int number, int sign) {
            same("figure " + chord + " " + number + " " + sign,
                    () -> tested.figure(chord, number, sign),
                    () -> oracle.figure(chord, number, sign));
        }

        private void askChord() {
            int chord = near(0, 7);
            for (int k = -1; k < 5; k++) {
                int tone = k;
                same("spell " + chord + " " + tone, () -> tested.spell(chord, tone),
                        () -> oracle.spell(chord, tone));
            }
            same("places " + chord, () -> tested.places(chord), () -> oracle.places(chord));
            for (int i = 0; i < 6; i++) {
                int k = near(0, 47);
                int voice = near(0, 2);
                same("place " + chord + " " + k + " " + voice,
                        () -> tested.place(chord, k, voice), () -> oracle.place(chord, k, voice));
            }
        }

        private void realise() {
            String got = same("realise", tested::realise, oracle::realise);
            if (got.startsWith("-")) {
                refusedAt[-1 - Integer.parseInt(got)]++;
            } else if (!got.startsWith("throws")) {
                laidOut++;
                askAllNotes();
            }
        }

        private void askAllNotes() {
            for (int i = 0; i < oracle.n; i++) {
                for (int v = 0; v < 4; v++) {
                    askNote(i, v);
                }
                askCost(i);
            }
        }

        private void askNotes() {
            askNote(near(0, 7), near(0, 3));
            askCost(near(0, 7));
        }

        private void askNote(int chord, int voice) {
            same("note " + chord + " " + voice, () -> tested.note(chord, voice),
                    () -> oracle.note(chord, voice));
        }

        private void askCost(int chord) {
            same("cost " + chord, () -> tested.cost(chord), () -> oracle.cost(chord));
        }

        private void writePupil() {
            for (int i = 0; i < 5; i++) {
                setPupil(near(0, 7), near(0, 2),
                        random.nextInt(4) == 0 ? near(0, 127) : near(48, 81));
            }
        }

        /** What was laid out, with a sound changed here and there, has few faults of all kinds. */
        private void copyRealisation() {
            for (int i = 0; i < 8; i++) {
                for (int v = 0; v < 3; v++) {
                    int chord = i;
                    int voice = v;
                    String sound = answer(() -> oracle.note(chord, voice));
                    if (!sound.startsWith("throws")) {
                        int change = random.nextInt(5) == 0 ? near(-5, 5) : 0;
                        setPupil(i, v, Integer.parseInt(sound) + change);
                    }
                }
            }
            askFaults();
        }

        private void setPupil(int chord, int voice, int sound) {
            same("pupil " + chord + " " + voice + " " + sound,
                    () -> { tested.pupil(chord, voice, sound); return 0; },
                    () -> { oracle.pupil(chord, voice, sound); return 0; });
        }

        private void askFaults() {
            if (random.nextInt(4) != 0) {
                same("faults", tested::faults, oracle::faults);
            }
            for (int k = -1; k <= oracle.faultList.size() && k < 20; k++) {
                askFault(k, near(0, 2));
                askFault(k, near(0, 2));
            }
        }

        private void askFault(int k, int what) {
            same("fault " + k + " " + what, () -> tested.fault(k, what),
                    () -> oracle.fault(k, what));
        }
    }

    /** The document's words, as slowly as they come. */
    private static final class Oracle {
        static final int[] BASES = {0, 2, 4, 5, 7, 9, 11};
        private static final int[][] RANGES = {{60, 81}, {55, 74}, {48, 67}};
        private static final String SHARP_LETTERS = "3041526";
        private static final String FLAT_LETTERS = "6251403";
        private static final Map<String, String> SHORT_ROWS = Map.of("", "53", "3", "53", "6", "63",
                "7", "753", "65", "653", "43", "643", "2", "642", "42", "642", "4", "54");

        int n = 1;
        private int f = 0;
        private boolean inMinor = false;
        private final int[][] basses = new int[8][];
        private final List<List<int[]>> rows = new ArrayList<>();
        private final int[][] sung = new int[8][3];
        private List<int[]> laid = null;
        private List<int[]> faultList = new ArrayList<>();

        Oracle() {
            for (int i = 0; i < 8; i++) {
                rows.add(new ArrayList<>());
                sung[i] = new int[] {60, 60, 60};
            }
        }

        static int keyAlteration(int fifths, int letter) {
            if (letter < 0 || letter > 6) {
                return 0;
            }
            if (SHARP_LETTERS.indexOf('0' + letter) < fifths) {
                return 1;
            }
            return FLAT_LETTERS.indexOf('0' + letter) < -fifths ? -1 : 0;
        }

        private static void argument(boolean good) {
            if (!good) {
                throw new IllegalArgumentException();
            }
        }

        private static void state(boolean good) {
            if (!good) {
                throw new IllegalStateException();
            }
        }

        private static void index(boolean good) {
            if (!good) {
                throw new IndexOutOfBoundsException();
            }
        }

        private static boolean within(int x, int least, int most) {
            return least <= x && x <= most;
        }

        void key(int fifths, boolean minor) {
            argument(within(fifths, -7, 7));
            f = fifths;
            inMinor = minor;
            laid = null;
        }

        void length(int count) {
            argument(within(count, 1, 8));
            n = count;
            laid = null;
        }

        int bass(int chord, int letter, int octave, int alteration) {
            argument(within(chord, 0, 7) && within(letter, 0, 6) && within(alteration, -1, 1));
            argument(within(octave, 0, 9));
            int sound = 12 * octave + BASES[letter] + alteration;
            argument(within(sound, 36, 60));
            basses[chord] = new int[] {letter, alteration, sound};
            rows.get(chord).clear();
            laid = null;
            return sound;
        }

        int figure(int chord, int number, int sign) {
            argument(within(chord, 0, 7) && within(number, 2, 9) && within(sign, 0, 3));
            state(basses[chord] != null && rows.get(chord).size() < 3);
            for (int[] figure : rows.get(chord)) {
                state(figure[0] != number);
            }
            rows.get(chord).add(new int[] {number, sign});
            laid = null;
            return rows.get(chord).size();
        }

        /** Rows of number (1 the bass), letter, class, and 1 if it is optional. */
        private List<int[]> tones(int chord) {
            StringBuilder shortRow = new StringBuilder();
            for (int[] figure : rows.get(chord)) {
                shortRow.append(figure[0]);
            }
            String row = SHORT_ROWS.getOrDefault(shortRow.toString(), shortRow.toString());
            List<int[]> tones = new ArrayList<>();
            int[] bass = basses[chord];
            tones.add(new int[] {1, bass[0], (BASES[bass[0]] + bass[1] + 12) % 12, 0});
            for (char digit : row.toCharArray()) {
                int number = digit - '0';
                int sign = 0;
                for (int[] figure : rows.get(chord)) {
                    sign = figure[0] == number ? figure[1] : sign;
                }
                int letter = (bass[0] + number - 1) % 7;
                int[] alterations = {keyAlteration(f, letter), 1, -1, 0};
                int alteration = alterations[sign];
                boolean optional = number == 5
                        && List.of("", "3", "7").contains(shortRow.toString());
                tones.add(new int[] {
                    number, letter, (BASES[letter] + alteration + 12) % 12, optional ? 1 : 0});
            }
            return tones;
        }

        private boolean isWhole(int chord) {
            if (basses[chord] == null) {
                return false;
            }
            return tones(chord).stream().map(t -> t[2]).distinct().count() == tones(chord).size();
        }

        private int classOfNumber(int chord, int number) {
            for (int[] tone : tones(chord)) {
                if (tone[0] == number) {
                    return tone[2];
                }
            }
            return -1;
        }

        private int seventhNumber(int chord) {
            boolean six = classOfNumber(chord, 6) >= 0;
            boolean five = classOfNumber(chord, 5) >= 0;
            boolean four = classOfNumber(chord, 4) >= 0;
            if (classOfNumber(chord, 7) >= 0) {
                return 7;
            }
            if (six && five) {
                return 5;
            }
            if (four && classOfNumber(chord, 3) >= 0) {
                return 3;
            }
            return four && classOfNumber(chord, 2) >= 0 ? 1 : -1;
        }

        private int seventhClass(int chord) {
            return classOfNumber(chord, seventhNumber(chord));
        }

        private int thirdClass(int chord) {
            return seventhNumber(chord) == 3 ? -1 : classOfNumber(chord, 3);
        }

        private int leadingClass() {
            int letter = ((4 * f) % 7 + 7) % 7;
            if (inMinor) {
                letter = (letter + 5) % 7;
            }
            return (BASES[letter] + keyAlteration(f, letter) + 12 + 11) % 12;
        }

        int spell(int chord, int k) {
            argument(within(chord, 0, 7));
            state(basses[chord] != null);
            index(within(k, 0, tones(chord).size() - 1));
            int[] tone = tones(chord).get(k);
            return tone[1] * 12 + tone[2] + 100 * tone[3];
        }

        private List<int[]> placements(int chord) {
            int bass = basses[chord][2];
            List<int[]> tones = tones(chord);
            List<int[]> found = new ArrayList<>();
            for (int s : tuneful(tones, RANGES[0])) {
                for (int a : tuneful(tones, RANGES[1])) {
                    for (int t : tuneful(tones, RANGES[2])) {
                        boolean good = s >= a && a >= t && t >= bass && s - a <= 12 && a - t <= 12;
                        for (int[] tone : tones) {
                            good = good && (tone[3] == 1 || tone[2] == s % 12 || tone[2] == a % 12
                                    || tone[2] == t % 12 || tone[2] == bass % 12);
                        }
                        if (good) {
                            found.add(new int[] {s, a, t, bass});
                        }
                    }
                }
            }
            return found;
        }

        private static List<Integer> tuneful(List<int[]> tones, int[] range) {
            List<Integer> sounds = new ArrayList<>();
            for (int sound = range[0]; sound <= range[1]; sound++) {
                for (int[] tone : tones) {
                    if (tone[2] == sound % 12) {
                        sounds.add(sound);
                        break;
                    }
                }
            }
            return sounds;
        }

        int places(int chord) {
            argument(within(chord, 0, 7));
            state(isWhole(chord));
            return placements(chord).size();
        }

        int place(int chord, int k, int voice) {
            argument(within(chord, 0, 7) && within(voice, 0, 2));
            state(isWhole(chord));
            List<int[]> all = placements(chord);
            index(within(k, 0, all.size() - 1));
            return all.get(k)[voice];
        }

        /** Faults of the kinds 4 to 7 between a chord's sounds and the next one's. */
        private List<int[]> brokenRules(int chord, int[] from, int[] to) {
            List<int[]> broken = new ArrayList<>();
            List<int[]> tones = tones(chord);
            List<int[]> nextTones = tones(chord + 1);
            for (int v = 0; v < 4; v++) {
                int go = to[v] - from[v];
                for (int w = v + 1; w < 4; w++) {
                    int apart = (from[v] - from[w] + 1200) % 12;
                    int apartThen = (to[v] - to[w] + 1200) % 12;
                    if (apart == apartThen && apart % 7 == 0 && go != 0 && to[w] != from[w]) {
                        broken.add(new int[] {chord, 4, 4 * v + w});
                    }
                }
                if (v % 3 == 0 && from[v] % 12 == leadingClass() && !within(go, 0, 1)) {
                    broken.add(new int[] {chord, 5, v});
                }
                if (from[v] % 12 == seventhClass(chord) && !within(go, -2, 0)) {
                    broken.add(new int[] {chord, 6, v});
                }
                for (int[] tone : tones) {
                    for (int[] next : nextTones) {
                        boolean sings = tone[2] == from[v] % 12 && next[2] == to[v] % 12;
                        boolean neighbours = (tone[1] + 1) % 7 == next[1]
                                || (next[1] + 1) % 7 == tone[1];
                        if (sings && neighbours && (go == 3 || go == -3)) {
                            broken.add(new int[] {chord, 7, v});
                        }
                    }
                }
            }
            return broken;
        }

        private int fees(int chord, int[] sounds) {
            int[] count = new int[12];
            for (int sound : sounds) {
                count[sound % 12]++;
            }
            int[] classes = {leadingClass(), seventhClass(chord), thirdClass(chord)};
            int[] fee = {9, 9, 3};
            int sum = 0;
            for (int i = 0; i < 3; i++) {
                if (classes[i] >= 0 && count[classes[i]] > 1) {
                    sum += fee[i] * (count[classes[i]] - 1);
                }
            }
            return sum;
        }

        private static int distance(int[] from, int[] to) {
            int sum = 0;
            for (int v = 0; v < 3; v++) {
                sum += Math.abs(from[v] - to[v]);
            }
            return sum;
        }

        /** The best way to each placement of the chord, from the first chord on. */
        int realise() {
            for (int i = 0; i < n; i++) {
                state(isWhole(i));
            }
            laid = null;
            List<Way> ways = new ArrayList<>();
            ways.add(new Way(null, 0, -1, null));
            for (int i = 0; i < n; i++) {
                ways = extend(ways, i);
                if (ways.isEmpty()) {
                    return -1 - i;
                }
            }
            Way best = ways.stream().min(Way.ORDER).get();
            laid = best.sounds();
            return best.cost;
        }

        private List<Way> extend(List<Way> ways, int chord) {
            List<Way> longer = new ArrayList<>();
            List<int[]> places = placements(chord);
            for (int k = 0; k < places.size(); k++) {
                Way best = null;
                for (Way way : ways) {
                    int[] from = way.last;
                    int[] to = places.get(k);
                    int step = from == null ? 0 : distance(from, to);
                    Way next = new Way(way, way.cost + step + fees(chord, to), k, to);
                    if ((best == null || Way.ORDER.compare(next, best) < 0)
                            && (from == null || brokenRules(chord - 1, from, to).isEmpty())) {
                        best = next;
                    }
                }
                if (best != null) {
                    longer.add(best);
                }
            }
            return longer;
        }

        int note(int chord, int voice) {
            argument(within(voice, 0, 3) && within(chord, 0, n - 1));
            state(laid != null);
            return laid.get(chord)[voice];
        }

        int cost(int chord) {
            argument(within(chord, 0, n - 1));
            state(laid != null);
            int step = chord == 0 ? 0 : distance(laid.get(chord - 1), laid.get(chord));
            return step + fees(chord, laid.get(chord));
        }

        void pupil(int chord, int voice, int sound) {
            argument(within(chord, 0, 7) && within(voice, 0, 2) && within(sound, 0, 127));
            sung[chord][voice] = sound;
        }

        int faults() {
            for (int i = 0; i < n; i++) {
                state(isWhole(i));
            }
            List<int[]> found = new ArrayList<>();
            for (int i = 0; i < n; i++) {
                int[] sounds = setting(i);
                if (i + 1 < n) {
                    found.addAll(brokenRules(i, sounds, setting(i + 1)));
                }
                addFaultsOfChord(found, i, sounds);
            }
            found.sort(Comparator.comparingInt((int[] x) -> x[0] * 10000 + x[1] * 100 + x[2]));
            faultList = found;
            return found.size();
        }

        private int[] setting(int chord) {
            return new int[] {sung[chord][0], sung[chord][1], sung[chord][2], basses[chord][2]};
        }

        private void addFaultsOfChord(List<int[]> found, int chord, int[] sounds) {
            List<int[]> tones = tones(chord);
            for (int v = 0; v < 3; v++) {
                int v0 = v;
                if (!within(sounds[v], RANGES[v][0], RANGES[v][1])) {
                    found.add(new int[] {chord, 0, v});
                }
                if (sounds[v + 1] > sounds[v]) {
                    found.add(new int[] {chord, 1, 4 * v + v + 1});
                }
                if (v < 2 && Math.abs(sounds[v + 1] - sounds[v]) > 12) {
                    found.add(new int[] {chord, 2, 4 * v + v + 1});
                }
                if (tones.stream().noneMatch(t -> t[2] == sounds[v0] % 12)) {
                    found.add(new int[] {chord, 3, v});
                }
            }
            for (int k = 0; k < tones.size(); k++) {
                boolean there = tones.get(k)[3] == 1;
                for (int sound : sounds) {
                    there = there || sound % 12 == tones.get(k)[2];
                }
                if (!there) {
                    found.add(new int[] {chord, 8, k});
                }
            }
        }

        int fault(int k, int what) {
            index(within(k, 0, faultList.size() - 1));
            argument(within(what, 0, 2));
            return faultList.get(k)[what];
        }
    }

    /** A writing of the first chords: less is better, then the placements in their order. */
    private static final class Way {
        static final Comparator<Way> ORDER = Way::compare;
        private final Way before;
        private final int cost;
        private final int place;
        private final int[] last;

        Way(Way before, int cost, int place, int[] last) {
            this.before = before;
            this.cost = cost;
            this.place = place;
            this.last = last;
        }

        private List<int[]> sounds() {
            List<int[]> all = before == null ? new ArrayList<>() : before.sounds();
            if (last != null) {
                all.add(last);
            }
            return all;
        }

        private static int compare(Way a, Way b) {
            return a.cost != b.cost ? Integer.compare(a.cost, b.cost) : comparePlaces(a, b);
        }

        private static int comparePlaces(Way a, Way b) {
            if (a == null || a == b) {
                return 0;
            }
            int earlier = comparePlaces(a.before, b.before);
            return earlier != 0 ? earlier : Integer.compare(a.place, b.place);
        }
    }
}
