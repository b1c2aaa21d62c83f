/**
 * Writes three voices over a bass with figures, such that rules between neighbouring chords hold
 * and as little as possible is moved and doubled, or says where that can't be; and lists what is
 * wrong in somebody else's setting.
 */
public final class FiguredBass {
    private static final int NONE = -1;
    private static final int LETTERS = 7;
    private static final int CLASSES = 12;
    private static final int CHORDS = 8;
    private static final int VOICES = 4;
    private static final int UPPER_VOICES = 3;
    private static final int SOPRANO = 0;
    private static final int BASS = 3;
    private static final int MOST_FIGURES = 3;
    private static final int MOST_FIFTHS = 7;
    private static final int HIGHEST_SOUND = 127;
    private static final int LOWEST_BASS = 36;
    private static final int HIGHEST_BASS = 60;
    private static final int WIDEST_GAP = 12;

    private static final int[] BASES = {0, 2, 4, 5, 7, 9, 11};
    private static final int[] LOWEST = {60, 55, 48};
    private static final int[] HIGHEST = {81, 74, 67};

    private final Key scale = new Key();
    private final Chord[] chords = new Chord[CHORDS];
    private final Realisation realisation = new Realisation();
    private final Examination examination = new Examination();
    private int counting = 1;

    /** Key of 0 fifths, not minor; one chord without a bass. */
    public FiguredBass() {
        for (int i = 0; i < CHORDS; i++) {
            chords[i] = new Chord();
        }
    }

    /** The key. */
    public void key(int fifths, boolean minor) throws IllegalArgumentException {
        if (fifths < -MOST_FIFTHS || fifths > MOST_FIFTHS) {
            throw new IllegalArgumentException("fifths are -7 to 7");
        }
        scale.write(fifths, minor);
        for (int i = 0; i < CHORDS; i++) {
            chords[i].read(scale);
        }
        realisation.forget();
    }

    /** How many chords count. */
    public void length(int n) throws IllegalArgumentException {
        if (n < 1 || n > CHORDS) {
            throw new IllegalArgumentException("1 to 8 chords count");
        }
        counting = n;
        realisation.forget();
    }

    /** Writes the bass of a chord, whose figures go, and answers its sound. */
    public int bass(int chord, int letter, int octave, int alteration)
            throws IllegalArgumentException {
        checkChord(chord, CHORDS);
        if (letter < 0 || letter >= LETTERS || alteration < -1 || alteration > 1) {
            throw new IllegalArgumentException("no such note");
        }
        // A long, since a far octave would wrap around into the bass's range.
        long sound = 12L * octave + BASES[letter] + alteration;
        if (sound < LOWEST_BASS || sound > HIGHEST_BASS) {
            throw new IllegalArgumentException("a bass sounds at 36 to 60");
        }
        chords[chord].writeBass(letter, alteration, (int) sound);
        chords[chord].read(scale);
        realisation.forget();
        return (int) sound;
    }

    /** Writes one more figure behind a chord's others, and answers how many it has. */
    public int figure(int chord, int number, int sign)
            throws IllegalArgumentException, IllegalStateException {
        checkChord(chord, CHORDS);
        if (number < 2 || number > 9 || sign < 0 || sign > 3) {
            throw new IllegalArgumentException("no such figure");
        }
        Chord changed = chords[chord];
        if (!changed.hasBass() || !changed.written.takes(number)) {
            throw new IllegalStateException("the chord can't have this figure");
        }
        changed.written.add(number, sign);
        changed.read(scale);
        realisation.forget();
        return changed.written.size;
    }

    /** Tone k of a chord: its letter times 12, and its class; 100 more if it is optional. */
    public int spell(int chord, int k)
            throws IllegalArgumentException, IllegalStateException, IndexOutOfBoundsException {
        checkChord(chord, CHORDS);
        Chord spelled = chords[chord];
        if (!spelled.hasBass()) {
            throw new IllegalStateException("the chord has no bass");
        }
        if (k < 0 || k >= spelled.toneCount) {
            throw new IndexOutOfBoundsException("no such tone");
        }
        int answer = spelled.letters[k] * 12 + spelled.classes[k];
        return k == spelled.optionalTone ? answer + 100 : answer;
    }

    /** How many placements a chord has. */
    public int places(int chord) throws IllegalArgumentException, IllegalStateException {
        checkChord(chord, CHORDS);
        checkWhole(chord);
        chords[chord].gather();
        return chords[chord].placementCount;
    }

    /** The sound of a voice (0 .. 2) in placement k of a chord. */
    public int place(int chord, int k, int voice)
            throws IllegalArgumentException, IllegalStateException, IndexOutOfBoundsException {
        checkChord(chord, CHORDS);
        checkVoice(voice, UPPER_VOICES);
        checkWhole(chord);
        chords[chord].gather();
        if (k < 0 || k >= chords[chord].placementCount) {
            throw new IndexOutOfBoundsException("no such placement");
        }
        return chords[chord].soundOf(k, voice);
    }

    /** Lays out the realisation of the least cost, and answers that, or -1 less the chord. */
    public int realise() throws IllegalStateException {
        checkAllWhole();
        for (int i = 0; i < counting; i++) {
            chords[i].gather();
        }
        int least = realisation.write(chords, counting);
        return least == NONE ? -1 - realisation.firstUnreached(chords, counting) : least;
    }

    /** The sound of a voice (0 .. 3) of a chord in what was laid out. */
    public int note(int chord, int voice) throws IllegalArgumentException, IllegalStateException {
        checkVoice(voice, VOICES);
        checkChord(chord, counting);
        checkLaidOut();
        return realisation.soundOf(chords, chord, voice);
    }

    /** What a chord adds to the cost of what was laid out. */
    public int cost(int chord) throws IllegalArgumentException, IllegalStateException {
        checkChord(chord, counting);
        checkLaidOut();
        return realisation.shareOf(chords, chord);
    }

    /** Writes the pupil's sound of a voice (0 .. 2) of a chord. */
    public void pupil(int chord, int voice, int sound) throws IllegalArgumentException {
        checkChord(chord, CHORDS);
        checkVoice(voice, UPPER_VOICES);
        if (sound < 0 || sound > HIGHEST_SOUND) {
            throw new IllegalArgumentException("sounds are 0 to 127");
        }
        chords[chord].pupilSounds[voice] = sound;
    }

    /** Looks through the pupil's setting, and answers how many faults it has. */
    public int faults() throws IllegalStateException {
        checkAllWhole();
        return examination.look(chords, counting);
    }

    /** Of fault k that was found last: 0 its chord, 1 its kind, 2 its voices. */
    public int fault(int k, int what) throws IndexOutOfBoundsException, IllegalArgumentException {
        if (k < 0 || k >= examination.found) {
            throw new IndexOutOfBoundsException("no such fault");
        }
        if (what < 0 || what > 2) {
            throw new IllegalArgumentException("0 to 2 can be asked of a fault");
        }
        return examination.answer(k, what);
    }

    private void checkChord(int chord, int end) {
        if (chord < 0 || chord >= end) {
            throw new IllegalArgumentException("no such chord");
        }
    }

    private void checkVoice(int voice, int end) {
        if (voice < 0 || voice >= end) {
            throw new IllegalArgumentException("no such voice");
        }
    }

    private void checkWhole(int chord) {
        if (!chords[chord].whole) {
            throw new IllegalStateException("the chord is not whole");
        }
    }

    private void checkAllWhole() {
        for (int i = 0; i < counting; i++) {
            checkWhole(i);
        }
    }

    private void checkLaidOut() {
        if (!realisation.laidOut) {
            throw new IllegalStateException("nothing is laid out");
        }
    }

    /** What the key signature alters, and which class leads to its tonic. */
    private static final class Key {
        private static final int[] SHARPS = {3, 0, 4, 1, 5, 2, 6};
        private static final int[] FLATS = {6, 2, 5, 1, 4, 0, 3};

        private final int[] alterations = new int[LETTERS];
        private int leadingClass = 11;

        void write(int fifths, boolean minor) {
            for (int i = 0; i < LETTERS; i++) {
                alterations[SHARPS[i]] = 0;
            }
            for (int i = 0; i < LETTERS && i < fifths; i++) {
                alterations[SHARPS[i]] = 1;
            }
            for (int i = 0; i < LETTERS && i < -fifths; i++) {
                alterations[FLATS[i]] = -1;
            }
            int tonic = Math.floorMod(4 * fifths + (minor ? 5 : 0), LETTERS);
            leadingClass = Math.floorMod(BASES[tonic] + alterations[tonic] + 11, CLASSES);
        }

        int alterationOf(int letter, int sign) {
            switch (sign) {
                case 1:
                    return 1;
                case 2:
                    return -1;
                case 3:
                    return 0;
                default:
                    return alterations[letter];
            }
        }
    }

    /** A row of figures, as it is written or as it is spelled out. */
    private static final class Row {
        // A row's numbers are its decimal digits here; each short row stands for the long one.
        private static final int[] SHORT = {0, 3, 6, 7, 65, 43, 2, 42, 4};
        private static final int[] LONG = {53, 53, 63, 753, 653, 643, 642, 642, 54};

        private final int[] numbers = new int[MOST_FIGURES];
        private final int[] signs = new int[MOST_FIGURES];
        private int size;

        void clear() {
            size = 0;
        }

        boolean takes(int number) {
            return size < MOST_FIGURES && indexOf(number) == NONE;
        }

        void add(int number, int sign) {
            if (size < MOST_FIGURES) {
                numbers[size] = number;
                signs[size] = sign;
                size++;
            }
        }

        int indexOf(int number) {
            for (int i = 0; i < size; i++) {
                if (numbers[i] == number) {
                    return i;
                }
            }
            return NONE;
        }

        boolean has(int number) {
            return indexOf(number) != NONE;
        }

        void spellOut(Row written) {
            clear();
            int digits = written.longDigits();
            for (int unit = 100; unit > 0; unit /= 10) {
                int number = digits / unit % 10;
                if (number != 0) {
                    int at = written.indexOf(number);
                    add(number, at == NONE ? 0 : written.signs[at]);
                }
            }
        }

        boolean addsOptionalFifth() {
            int digits = digits();
            return digits == 0 || digits == 3 || digits == 7;
        }

        private int digits() {
            int digits = 0;
            for (int i = 0; i < size; i++) {
                digits = digits * 10 + numbers[i];
            }
            return digits;
        }

        private int longDigits() {
            int digits = digits();
            for (int i = 0; i < SHORT.length; i++) {
                if (SHORT[i] == digits) {
                    return LONG[i];
                }
            }
            return digits;
        }
    }

    /** A bass with its figures, what they mean in the key, and the pupil's sounds over it. */
    private static final class Chord {
        private static final int MOST_TONES = MOST_FIGURES + 1;
        // No chord has more than 44; OracleTest goes through all of them.
        private static final int MOST_PLACEMENTS = 64;
        // Stands for the pupil's sounds where a placement is asked for.
        private static final int PUPILS = -1;

        private final Row written = new Row();
        private final Row full = new Row();
        private final int[] letters = new int[MOST_TONES];
        private final int[] classes = new int[MOST_TONES];
        private final int[] letterOfClass = new int[CLASSES];
        private final int[] placed = new int[UPPER_VOICES * MOST_PLACEMENTS];
        private final int[] pupilSounds = {60, 60, 60};
        private int bassLetter;
        private int bassAlteration;
        private int bassSound = NONE;
        private int toneCount;
        private int optionalTone = NONE;
        private int leadingClass;
        private int seventhClass = NONE;
        private int thirdClass = NONE;
        private boolean whole;
        private int placementCount;
        private boolean gathered;

        boolean hasBass() {
            return bassSound != NONE;
        }

        void writeBass(int letter, int alteration, int sound) {
            bassLetter = letter;
            bassAlteration = alteration;
            bassSound = sound;
            written.clear();
        }

        /** To be called after each change of the bass, the figures or the key. */
        void read(Key key) {
            leadingClass = key.leadingClass;
            gathered = false;
            if (hasBass()) {
                full.spellOut(written);
                readTones(key);
                readSeventhAndThird();
            }
        }

        private void readTones(Key key) {
            for (int i = 0; i < CLASSES; i++) {
                letterOfClass[i] = NONE;
            }
            whole = true;
            toneCount = 0;
            addTone(bassLetter, bassAlteration);
            for (int i = 0; i < full.size; i++) {
                int letter = (bassLetter + full.numbers[i] - 1) % LETTERS;
                addTone(letter, key.alterationOf(letter, full.signs[i]));
            }
            optionalTone = written.addsOptionalFifth() ? full.indexOf(5) + 1 : NONE;
        }

        private void addTone(int letter, int alteration) {
            int soundClass = Math.floorMod(BASES[letter] + alteration, CLASSES);
            if (letterOfClass[soundClass] != NONE) {
                whole = false;
            }
            letterOfClass[soundClass] = letter;
            if (toneCount < MOST_TONES) {
                letters[toneCount] = letter;
                classes[toneCount] = soundClass;
                toneCount++;
            }
        }

        private void readSeventhAndThird() {
            int seventh = seventhTone();
            int third = full.has(3) ? full.indexOf(3) + 1 : NONE;
            seventhClass = seventh == NONE ? NONE : classes[seventh];
            thirdClass = third == NONE || third == seventh ? NONE : classes[third];
        }

        private int seventhTone() {
            if (full.has(7)) {
                return full.indexOf(7) + 1;
            }
            if (full.has(6) && full.has(5)) {
                return full.indexOf(5) + 1;
            }
            if (full.has(4) && full.has(3)) {
                return full.indexOf(3) + 1;
            }
            return full.has(4) && full.has(2) ? 0 : NONE;
        }

        /** The letter of the tone with a sound's class, or NONE. */
        int letterOf(int sound) {
            return letterOfClass[Math.floorMod(sound, CLASSES)];
        }

        boolean hasTone(int sound) {
            return letterOf(sound) != NONE;
        }

        /** Fills the row of placements, unless it is still good. */
        void gather() {
            if (gathered) {
                return;
            }
            gathered = true;
            placementCount = 0;
            int needed = neededClasses();
            for (int soprano = LOWEST[0]; soprano <= HIGHEST[0]; soprano++) {
                int lowestAlto = Math.max(LOWEST[1], soprano - WIDEST_GAP);
                int highestAlto = Math.min(HIGHEST[1], soprano);
                for (int alto = lowestAlto; alto <= highestAlto; alto++) {
                    if (hasTone(soprano) && hasTone(alto)) {
                        gatherTenors(soprano, alto, needed);
                    }
                }
            }
        }

        private void gatherTenors(int soprano, int alto, int needed) {
            int lowestTenor = Math.max(Math.max(LOWEST[2], bassSound), alto - WIDEST_GAP);
            int highestTenor = Math.min(HIGHEST[2], alto);
            for (int tenor = lowestTenor; tenor <= highestTenor; tenor++) {
                int present = bit(soprano) | bit(alto) | bit(tenor) | bit(bassSound);
                if (hasTone(tenor) && (present & needed) == needed) {
                    addPlacement(soprano, alto, tenor);
                }
            }
        }

        private void addPlacement(int soprano, int alto, int tenor) {
            if (placementCount < MOST_PLACEMENTS) {
                int start = UPPER_VOICES * placementCount;
                placed[start] = soprano;
                placed[start + 1] = alto;
                placed[start + 2] = tenor;
                placementCount++;
            }
        }

        private int neededClasses() {
            int needed = 0;
            for (int i = 0; i < toneCount; i++) {
                if (i != optionalTone) {
                    needed |= bit(classes[i]);
                }
            }
            return needed;
        }

        private static int bit(int sound) {
            return 1 << Math.floorMod(sound, CLASSES);
        }

        int soundOf(int placement, int voice) {
            if (voice == BASS) {
                return bassSound;
            }
            if (placement == PUPILS) {
                return pupilSounds[voice];
            }
            return placed[UPPER_VOICES * placement + voice];
        }

        /** How far the pupil's voice is above the next one; below 0 if they cross. */
        int pupilGap(int voice) {
            return soundOf(PUPILS, voice) - soundOf(PUPILS, voice + 1);
        }

        int fees(int placement) {
            return 9 * doublings(placement, leadingClass)
                    + 9 * doublings(placement, seventhClass)
                    + 3 * doublings(placement, thirdClass);
        }

        private int doublings(int placement, int soundClass) {
            int count = 0;
            for (int v = 0; v < VOICES; v++) {
                if (soundOf(placement, v) % CLASSES == soundClass) {
                    count++;
                }
            }
            return Math.max(0, count - 1);
        }
    }

    /** Four voices that go from one chord to the next one, and the rules for that. */
    private static final class Move {
        private final int[] from = new int[VOICES];
        private final int[] to = new int[VOICES];
        private final int[] fromLetters = new int[VOICES];
        private final int[] toLetters = new int[VOICES];
        private int leadingClass;
        private int seventhClass;

        void startAt(Chord chord, int placement) {
            leadingClass = chord.leadingClass;
            seventhClass = chord.seventhClass;
            for (int v = 0; v < VOICES; v++) {
                from[v] = chord.soundOf(placement, v);
                fromLetters[v] = chord.letterOf(from[v]);
            }
        }

        void endAt(Chord chord, int placement) {
            for (int v = 0; v < VOICES; v++) {
                to[v] = chord.soundOf(placement, v);
                toLetters[v] = chord.letterOf(to[v]);
            }
        }

        int distance() {
            int distance = 0;
            for (int v = 0; v < UPPER_VOICES; v++) {
                distance += Math.abs(to[v] - from[v]);
            }
            return distance;
        }

        boolean keepsRules() {
            for (int v = 0; v < VOICES; v++) {
                if (breaksLeading(v) || breaksSeventh(v) || breaksStep(v)) {
                    return false;
                }
                for (int w = v + 1; w < VOICES; w++) {
                    if (breaksParallel(v, w)) {
                        return false;
                    }
                }
            }
            return true;
        }

        boolean breaksParallel(int upper, int lower) {
            int apart = Math.floorMod(from[upper] - from[lower], CLASSES);
            return (apart == 7 || apart == 0)
                    && apart == Math.floorMod(to[upper] - to[lower], CLASSES)
                    && from[upper] != to[upper]
                    && from[lower] != to[lower];
        }

        boolean breaksLeading(int voice) {
            int up = to[voice] - from[voice];
            return (voice == SOPRANO || voice == BASS)
                    && from[voice] % CLASSES == leadingClass
                    && up != 0
                    && up != 1;
        }

        boolean breaksSeventh(int voice) {
            int down = from[voice] - to[voice];
            return from[voice] % CLASSES == seventhClass && (down < 0 || down > 2);
        }

        boolean breaksStep(int voice) {
            int letter = fromLetters[voice];
            int next = toLetters[voice];
            if (letter == NONE || next == NONE || Math.abs(to[voice] - from[voice]) != 3) {
                return false;
            }
            int apart = Math.abs(next - letter);
            return apart == 1 || apart == LETTERS - 1;
        }
    }

    /** The search for the realisation of the least cost, and what it laid out. */
    private static final class Realisation {
        private final Move move = new Move();
        // For each chord and placement: what it costs from there to the end (NONE if there is no
        // way), and the next chord's placement on that way.
        private final int[][] costToEnd = new int[CHORDS][Chord.MOST_PLACEMENTS];
        private final int[][] following = new int[CHORDS][Chord.MOST_PLACEMENTS];
        private final boolean[] reached = new boolean[Chord.MOST_PLACEMENTS];
        private final boolean[] reachedNext = new boolean[Chord.MOST_PLACEMENTS];
        private final int[] chosen = new int[CHORDS];
        private boolean laidOut;

        void forget() {
            laidOut = false;
        }

        /** Lays out the best realisation, and answers its cost, or NONE if there is none. */
        int write(Chord[] chords, int counting) {
            // From the end, since then of equal ways the first placement of each chord is at hand.
            for (int i = counting - 1; i >= 0; i--) {
                for (int p = 0; p < chords[i].placementCount; p++) {
                    weigh(chords, counting, i, p);
                }
            }
            int start = cheapest(chords[0].placementCount);
            laidOut = start != NONE;
            if (!laidOut) {
                return NONE;
            }
            choose(start, counting);
            return costToEnd[0][start];
        }

        private void weigh(Chord[] chords, int counting, int i, int placement) {
            int fees = chords[i].fees(placement);
            if (i + 1 >= counting) {
                costToEnd[i][placement] = fees;
                return;
            }
            int least = NONE;
            move.startAt(chords[i], placement);
            for (int q = 0; q < chords[i + 1].placementCount; q++) {
                if (costToEnd[i + 1][q] != NONE) {
                    move.endAt(chords[i + 1], q);
                    int sum = fees + move.distance() + costToEnd[i + 1][q];
                    if ((least == NONE || sum < least) && move.keepsRules()) {
                        least = sum;
                        following[i][placement] = q;
                    }
                }
            }
            costToEnd[i][placement] = least;
        }

        private int cheapest(int count) {
            int best = NONE;
            for (int p = 0; p < count; p++) {
                int sum = costToEnd[0][p];
                if (sum != NONE && (best == NONE || sum < costToEnd[0][best])) {
                    best = p;
                }
            }
            return best;
        }

        private void choose(int start, int counting) {
            chosen[0] = start;
            for (int i = 1; i < counting; i++) {
                chosen[i] = following[i - 1][chosen[i - 1]];
            }
        }

        /** The least chord up to which none can be written; to be asked only if there is one. */
        int firstUnreached(Chord[] chords, int counting) {
            for (int p = 0; p < Chord.MOST_PLACEMENTS; p++) {
                reached[p] = p < chords[0].placementCount;
            }
            int i = 0;
            while (i + 1 < counting && anyReached()) {
                reachNext(chords[i], chords[i + 1]);
                i++;
            }
            return i;
        }

        private boolean anyReached() {
            for (int p = 0; p < Chord.MOST_PLACEMENTS; p++) {
                if (reached[p]) {
                    return true;
                }
            }
            return false;
        }

        private void reachNext(Chord chord, Chord next) {
            for (int q = 0; q < Chord.MOST_PLACEMENTS; q++) {
                reachedNext[q] = q < next.placementCount && isReachable(chord, next, q);
            }
            for (int q = 0; q < Chord.MOST_PLACEMENTS; q++) {
                reached[q] = reachedNext[q];
            }
        }

        private boolean isReachable(Chord chord, Chord next, int placement) {
            move.endAt(next, placement);
            for (int p = 0; p < chord.placementCount; p++) {
                if (reached[p]) {
                    move.startAt(chord, p);
                    if (move.keepsRules()) {
                        return true;
                    }
                }
            }
            return false;
        }

        int soundOf(Chord[] chords, int i, int voice) {
            return chords[i].soundOf(chosen[i], voice);
        }

        int shareOf(Chord[] chords, int i) {
            int fees = chords[i].fees(chosen[i]);
            if (i == 0) {
                return fees;
            }
            move.startAt(chords[i - 1], chosen[i - 1]);
            move.endAt(chords[i], chosen[i]);
            return fees + move.distance();
        }
    }

    /** The faults of the pupil's setting that were found last, in their order. */
    private static final class Examination {
        private static final int OUT_OF_RANGE = 0;
        private static final int CROSSED = 1;
        private static final int TOO_WIDE = 2;
        private static final int NO_TONE = 3;
        private static final int PARALLEL = 4;
        private static final int LEADING = 5;
        private static final int SEVENTH = 6;
        private static final int STEP = 7;
        private static final int MISSING = 8;
        // A chord can have 3, 3, 2, 3, 6, 2, 4, 4 and 3 faults of the kinds 0 to 8.
        private static final int MOST_FAULTS = 30 * CHORDS;

        private final Move move = new Move();
        private final int[] where = new int[MOST_FAULTS];
        private final int[] kinds = new int[MOST_FAULTS];
        private final int[] voices = new int[MOST_FAULTS];
        private int found;

        int look(Chord[] chords, int counting) {
            found = 0;
            for (int i = 0; i < counting; i++) {
                lookAtVoices(chords[i], i);
                if (i + 1 < counting) {
                    move.startAt(chords[i], Chord.PUPILS);
                    move.endAt(chords[i + 1], Chord.PUPILS);
                    lookAtMove(i);
                }
                lookForMissingTones(chords[i], i);
            }
            return found;
        }

        int answer(int k, int what) {
            switch (what) {
                case 0:
                    return where[k];
                case 1:
                    return kinds[k];
                default:
                    return voices[k];
            }
        }

        private void lookAtVoices(Chord chord, int i) {
            for (int v = 0; v < UPPER_VOICES; v++) {
                int sound = chord.soundOf(Chord.PUPILS, v);
                addIf(sound < LOWEST[v] || sound > HIGHEST[v], i, OUT_OF_RANGE, v);
            }
            for (int v = 0; v < UPPER_VOICES; v++) {
                addIf(chord.pupilGap(v) < 0, i, CROSSED, pair(v, v + 1));
            }
            for (int v = 0; v + 1 < UPPER_VOICES; v++) {
                addIf(Math.abs(chord.pupilGap(v)) > WIDEST_GAP, i, TOO_WIDE, pair(v, v + 1));
            }
            for (int v = 0; v < UPPER_VOICES; v++) {
                addIf(!chord.hasTone(chord.soundOf(Chord.PUPILS, v)), i, NO_TONE, v);
            }
        }

        private void lookAtMove(int i) {
            for (int v = 0; v < VOICES; v++) {
                for (int w = v + 1; w < VOICES; w++) {
                    addIf(move.breaksParallel(v, w), i, PARALLEL, pair(v, w));
                }
            }
            for (int v = 0; v < VOICES; v++) {
                addIf(move.breaksLeading(v), i, LEADING, v);
            }
            for (int v = 0; v < VOICES; v++) {
                addIf(move.breaksSeventh(v), i, SEVENTH, v);
            }
            for (int v = 0; v < VOICES; v++) {
                addIf(move.breaksStep(v), i, STEP, v);
            }
        }

        private void lookForMissingTones(Chord chord, int i) {
            for (int tone = 0; tone < chord.toneCount; tone++) {
                boolean missing = tone != chord.optionalTone && !isSung(chord, chord.classes[tone]);
                addIf(missing, i, MISSING, tone);
            }
        }

        private static boolean isSung(Chord chord, int soundClass) {
            for (int v = 0; v < VOICES; v++) {
                if (chord.soundOf(Chord.PUPILS, v) % CLASSES == soundClass) {
                    return true;
                }
            }
            return false;
        }

        private static int pair(int upper, int lower) {
            return 4 * upper + lower;
        }

        private void addIf(boolean wrong, int chord, int kind, int who) {
            if (wrong && found < MOST_FAULTS) {
                where[found] = chord;
                kinds[found] = kind;
                voices[found] = who;
                found++;
            }
        }
    }
}
