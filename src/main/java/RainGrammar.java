import java.util.Arrays;
import java.util.NoSuchElementException;

/** A square read from above: its grammar, its walkers, and what their umbrellas say. */
public final class RainGrammar {
    public static final int NONE = -1;

    private static final int OTHERS = -2;
    private static final int PLACES = 10;
    private static final int CALM = 10;
    private static final int MOST_WALKERS = 7;
    private static final int MOST_SORTS = 6;
    private static final int MOST_COLOURS = 6;
    private static final int MOST_RULES = 12;
    private static final int STOP = 6;

    private static final int LONGEST_LOOK = 60;
    private static final int LONGEST_SIGHT = 40;
    private static final int MOST_UNDONE = 16;
    private static final int MARKS = 4;

    private final Tape tape = new Tape();
    private final BookReader books = new BookReader();
    private final Scene scene = new Scene();
    private final Scene trial = new Scene();
    private final Book book = new Book();
    private final Reading reading = new Reading();
    private final Chart chart = new Chart();
    private final Wisher wisher = new Wisher();
    private final long[] undoRows = new long[MOST_UNDONE];
    private final long[] markScenes = new long[MARKS];
    private final Book[] markBooks = new Book[MARKS];
    private final boolean[] marksLaid = new boolean[MARKS];
    private Square told = new Square();
    private Square draft = new Square();
    private int undoCount;
    private int undoEnd;

    public RainGrammar() {
        for (int i = 0; i < MARKS; i++) {
            markBooks[i] = new Book();
        }
    }

    public int feed(long a, long b, long c) {
        tape.addBytes(a);
        tape.addBytes(b);
        tape.addBytes(c);
        return tape.length;
    }

    public int square() {
        int fault = SquareReader.fill(tape, draft);
        if (fault == 0) {
            Square old = told;
            told = draft;
            draft = old;
            beginSquare();
        }
        return fault;
    }

    public int day() {
        return books.fillDay(tape, told, book);
    }

    public int wish() {
        return books.fillWish(tape, told, book);
    }

    public int walker(int walker, int what) {
        if (!isWalker(walker)) {
            return OTHERS;
        }
        switch (what) {
            case 0:
                return told.kinds[walker];
            case 1:
                return told.walkerColours[walker];
            case 2:
                return scene.places[walker];
            case 3:
                return scene.isOpen(walker) ? 1 : 0;
            case 4:
                return told.stepOf(walker, scene.hour);
            case 5:
                readIn(scene);
                return (reading.readers >> walker) & 1;
            default:
                return OTHERS;
        }
    }

    public int read(int i) {
        readIn(scene);
        return i >= 0 && i < reading.length ? reading.shown[i] : NONE;
    }

    public int tick() {
        keepForUndo();
        scene.goOn(told);
        return saidIn(scene);
    }

    public int move(int walker, int step) {
        if (!isWalker(walker) || !scene.canStep(walker, step)) {
            return NONE;
        }
        keepForUndo();
        scene.stepAside(walker, step);
        return scene.places[walker];
    }

    public boolean shut(int walker) {
        if (!isWalker(walker) || !scene.isOpen(walker)) {
            return false;
        }
        keepForUndo();
        scene.close(walker);
        return true;
    }

    public boolean open(int walker) {
        if (!isWalker(walker) || scene.isOpen(walker)) {
            return false;
        }
        keepForUndo();
        scene.putUp(walker);
        return true;
    }

    public boolean undo() {
        if (undoCount < 1) {
            return false;
        }
        undoCount--;
        undoEnd = (undoEnd + MOST_UNDONE - 1) % MOST_UNDONE;
        scene.unpack(undoRows[undoEnd]);
        return true;
    }

    public int judged(int what) {
        if (what < 0 || what > 2) {
            return OTHERS;
        }
        trial.begin(told);
        for (int i = 0; i < book.lineCount; i++) {
            boolean done = trial.obey(told, book.lines[i]);
            if (what == 0 && !done) {
                return i;
            }
            if (what == 1 && saidIn(trial) > 0) {
                return i;
            }
        }
        return what == 2 ? saidIn(trial) : NONE;
    }

    public int said() {
        return saidIn(scene);
    }

    public int ways(int sentence) {
        return parseNow(sentence) ? chart.waysOfWhole() : NONE;
    }

    public int sorts(int sentence, int from, int to) {
        return parseNow(sentence) ? chart.sortBits(from, to) : NONE;
    }

    public int depth(int sentence) {
        return parseNow(sentence) ? chart.leastDepth(told) : NONE;
    }

    public int tree(int sentence, int i) {
        return parseNow(sentence) ? chart.ruleInTree(told, i) : NONE;
    }

    public int keys() {
        int gust = told.gustOf(scene.hour);
        int usual = saidIn(scene);
        // Who is not read changes nothing by shutting: others are judged by him, shut or not.
        int readers = reading.readers;
        int found = 0;
        for (int w = 0; w < told.walkerCount; w++) {
            int bit = 1 << w;
            if ((readers & bit) != 0) {
                reading.take(told, scene, bit, gust);
                if (saidInReading() != usual) {
                    found |= bit;
                }
            }
        }
        return found;
    }

    public int least() {
        int gust = told.gustOf(scene.hour);
        readIn(scene);
        int readers = reading.readers;
        int best = NONE;
        int fewest = MOST_WALKERS + 1;
        for (int set = 0; set < 1 << MOST_WALKERS; set++) {
            int size = Integer.bitCount(set);
            if ((set & ~readers) == 0 && size < fewest) {
                reading.take(told, scene, set, gust);
                if (isSaidInOneWay()) {
                    best = set;
                    fewest = size;
                }
            }
        }
        return best;
    }

    public int later(int walker, int ticks) {
        if (!isWalker(walker) || ticks < 0 || ticks > LONGEST_LOOK) {
            return NONE;
        }
        return placeLater(walker, ticks);
    }

    public int when() {
        trial.copy(scene);
        for (int t = 0; t <= LONGEST_LOOK; t++) {
            if (saidIn(trial) > 0) {
                return t;
            }
            trial.goOn(told);
        }
        return NONE;
    }

    public int most() {
        trial.copy(scene);
        int best = 0;
        int highest = NONE;
        for (int t = 0; t <= LONGEST_LOOK; t++) {
            int said = saidIn(trial);
            if (said > highest) {
                highest = said;
                best = t;
            }
            trial.goOn(told);
        }
        return best;
    }

    public int talk(int ticks) {
        if (ticks < 1 || ticks > LONGEST_LOOK) {
            return NONE;
        }
        trial.copy(scene);
        int together = 0;
        for (int t = 0; t < ticks; t++) {
            trial.goOn(told);
            together += saidIn(trial);
        }
        return together;
    }

    public int wished() {
        if (book.wishCount < 1) {
            return NONE;
        }
        chart.fill(told, book.wishes, 0, book.wishCount);
        return chart.waysOfWhole();
    }

    public int steps(int what) {
        if (what < NONE || what >= book.wishCount) {
            return OTHERS;
        }
        int fewest = wisher.fewest(told, scene, book);
        if (fewest == NONE) {
            return OTHERS;
        }
        return what == NONE ? fewest : wisher.row[what];
    }

    public int colours() {
        readIn(scene);
        int bits = 0;
        for (int i = 0; i < reading.length; i++) {
            if (reading.shown[i] != STOP) {
                bits |= 1 << reading.shown[i];
            }
        }
        return bits;
    }

    public int code(int value) {
        return value >= 0 && value <= 15 ? slatsOf(value) : NONE;
    }

    public int amiss(int slats) {
        return slats >= 0 && slats <= 127 ? wrongSlat(slats) : NONE;
    }

    public int blind(int slats) {
        if (slats < 0 || slats > 127) {
            return NONE;
        }
        int wrong = wrongSlat(slats);
        int right = wrong == 0 ? slats : slats ^ (1 << (wrong - 1));
        return ((right >> 2) & 1) | ((right >> 3) & 14);
    }

    public int answer() {
        return slatsOf(saidIn(scene));
    }

    public boolean see(int place, int ticks, boolean there) {
        if (place < 0 || place >= PLACES || ticks < 0 || ticks > LONGEST_SIGHT) {
            return false;
        }
        return book.addSight(place, ticks, there);
    }

    public int who() {
        int bits = 0;
        for (int w = 0; w < told.walkerCount; w++) {
            if (fitsAllSeen(w)) {
                bits |= 1 << w;
            }
        }
        return bits;
    }

    public int ask() {
        int suspects = who();
        int all = Integer.bitCount(suspects);
        int best = NONE;
        int smallest = all;
        trial.copy(scene);
        for (int t = 0; t <= LONGEST_SIGHT; t++) {
            for (int p = 0; p < PLACES; p++) {
                int there = Integer.bitCount(trial.whoStandAt(p, told.walkerCount) & suspects);
                int greater = Math.max(there, all - there);
                if (greater < smallest) {
                    smallest = greater;
                    best = 10 * t + p;
                }
            }
            trial.goOn(told);
        }
        return best;
    }

    public int chance(int odds) {
        if (odds < 0 || odds > 10) {
            return NONE;
        }
        reading.look(told, scene);
        int sum = 0;
        for (int gust = 0; gust < PLACES; gust++) {
            reading.take(told, scene, 0, gust);
            sum += saidInReading() > 0 ? (10 - odds) * 10000 : 0;
        }
        reading.take(told, scene, 0, CALM);
        return sum + (saidInReading() > 0 ? odds * 100000 : 0);
    }

    public int rests(int lose, int tilts, int stays, int what) throws NoSuchElementException {
        if (!isDigit(lose) || !isDigit(tilts) || !isDigit(stays) || what < NONE) {
            throw new NoSuchElementException("no such corner");
        }
        int found = 0;
        for (int pair = 0; pair < 4; pair++) {
            boolean first = pair > 1;
            boolean other = (pair & 1) == 1;
            if (holdsStill(first, other, lose, tilts, stays) && holdsStill(other, first, lose, tilts, stays)) {
                if (found == what) {
                    return pair;
                }
                found++;
            }
        }
        if (what != NONE) {
            throw new NoSuchElementException("no such rest");
        }
        return found;
    }

    public int days(int seed, int ticks, int what) {
        if (seed < 0 || seed > 9999 || ticks < 1 || ticks > 99 || what < 0 || what > 2) {
            return NONE;
        }
        trial.copy(scene);
        long g = seed;
        int together = 0;
        for (int t = 0; t < ticks; t++) {
            g = stirTrial(g);
            trial.goOn(told);
            together += what == 0 ? saidIn(trial) : 0;
        }
        if (what == 0) {
            return together;
        }
        return what == 1 ? trial.open : trial.sumOfPlaces(told.walkerCount);
    }

    public boolean mark(int mark, boolean back) {
        if (mark < 0 || mark >= MARKS || (back && !marksLaid[mark])) {
            return false;
        }
        if (back) {
            scene.unpack(markScenes[mark]);
            book.copy(markBooks[mark]);
            forgetUndo();
        } else {
            markScenes[mark] = scene.packed();
            markBooks[mark].copy(book);
            marksLaid[mark] = true;
        }
        return true;
    }

    public int count(int what) {
        switch (what) {
            case 0:
                return told.sortCount;
            case 1:
                return told.colourCount;
            case 2:
                return told.ruleCount;
            case 3:
                return told.walkerCount;
            case 4:
                return scene.hour;
            case 5:
                return told.gustOf(scene.hour);
            case 6:
                readIn(scene);
                return reading.sentences;
            case 7:
                readIn(scene);
                return reading.length;
            case 8:
                return scene.open;
            case 9:
                return book.lineCount;
            case 10:
                return book.wishCount;
            case 11:
                return book.sightCount;
            case 12:
                return undoCount;
            case 13:
                return tape.length;
            default:
                return NONE;
        }
    }

    private void beginSquare() {
        scene.begin(told);
        book.clear();
        forgetUndo();
        for (int i = 0; i < MARKS; i++) {
            marksLaid[i] = false;
        }
    }

    private boolean isWalker(int walker) {
        return walker >= 0 && walker < told.walkerCount;
    }

    private void keepForUndo() {
        undoRows[undoEnd] = scene.packed();
        undoEnd = (undoEnd + 1) % MOST_UNDONE;
        undoCount = Math.min(undoCount + 1, MOST_UNDONE);
    }

    private void forgetUndo() {
        undoCount = 0;
        undoEnd = 0;
    }

    private void readIn(Scene seen) {
        reading.look(told, seen);
        reading.take(told, seen, 0, told.gustOf(seen.hour));
    }

    private int saidIn(Scene seen) {
        readIn(seen);
        return saidInReading();
    }

    private int saidInReading() {
        int said = 0;
        for (int s = 0; s < reading.sentences; s++) {
            chart.fill(told, reading.shown, reading.begins[s], reading.lengths[s]);
            said += chart.waysOfWhole() > 0 ? 1 : 0;
        }
        return said;
    }

    private boolean parseNow(int sentence) {
        readIn(scene);
        if (sentence < 0 || sentence >= reading.sentences) {
            return false;
        }
        chart.fill(told, reading.shown, reading.begins[sentence], reading.lengths[sentence]);
        return true;
    }

    private boolean isSaidInOneWay() {
        if (reading.sentences != 1) {
            return false;
        }
        chart.fill(told, reading.shown, reading.begins[0], reading.lengths[0]);
        return chart.waysOfWhole() == 1;
    }

    private int placeLater(int walker, int ticks) {
        int place = scene.places[walker];
        for (int t = 0; t < ticks; t++) {
            place = Scene.placeBehind(place, told.stepOf(walker, scene.hour + t));
        }
        return place;
    }

    private boolean fitsAllSeen(int walker) {
        for (int i = 0; i < book.sightCount; i++) {
            boolean there = placeLater(walker, book.sightTicks(i)) == book.sightPlace(i);
            if (there != book.sightThere(i)) {
                return false;
            }
        }
        return true;
    }

    private static int slatsOf(int value) {
        int slats = ((value & 1) << 2) | ((value & 14) << 3);
        int odd = wrongSlat(slats);
        return slats | (odd & 3) | ((odd & 4) << 1);
    }

    private static int wrongSlat(int slats) {
        int wrong = 0;
        for (int slat = 1; slat <= 7; slat++) {
            if (((slats >> (slat - 1)) & 1) == 1) {
                wrong ^= slat;
            }
        }
        return wrong;
    }

    private static boolean isDigit(int value) {
        return value >= 0 && value <= 9;
    }

    private static boolean holdsStill(boolean own, boolean other, int lose, int tilts, int stays) {
        return gain(own, other, lose, tilts, stays) >= gain(!own, other, lose, tilts, stays);
    }

    private static int gain(boolean own, boolean other, int lose, int tilts, int stays) {
        if (own) {
            return other ? -lose : tilts;
        }
        return other ? stays : 0;
    }

    private long stirTrial(long before) {
        int walkers = told.walkerCount;
        if (walkers < 1) {
            return before;
        }
        long g = drawn(before);
        int walker = (int) (g / 65536 % walkers);
        g = drawn(g);
        int deed = (int) (g / 65536 % 6);
        if (deed == 0) {
            g = drawn(g);
            int step = (int) (g / 65536 % 2) + 1;
            trial.stepAside(walker, step);
        } else if (deed == 1) {
            trial.close(walker);
        } else if (deed == 2) {
            trial.putUp(walker);
        }
        return g;
    }

    private static long drawn(long g) {
        return (g * 1103515245L + 12345L) % 2147483648L;
    }

    /** The signs that were fed; then their tokens, of which a reader stands at one, and the fault. */
    private static final class Tape {
        static final int ROOM = 1000;
        private static final int LONGEST_WORD = 8;
        private static final int LONGEST_NUMBER = 4;
        private static final int LETTER_BITS = 5;
        private static final int LENGTH_SHIFT = LONGEST_WORD * LETTER_BITS;

        private static final int END = 0;
        private static final int ODD = 1;
        private static final int KEPT = 2;
        private static final int NAME = 3;
        private static final int NUMBER = 4;
        private static final int SIGN = 5;

        private final char[] signs = new char[ROOM];
        int length;
        int fault;
        private final int[] types = new int[ROOM + 1];
        private final int[] starts = new int[ROOM + 1];
        /** A number's value; a word's length and letters, alike for words alone that are alike. */
        private final long[] values = new long[ROOM + 1];
        private int tokens;
        private int at;
        private int behind;

        void addBytes(long bytes) {
            for (int shift = 56; shift >= 0; shift -= 8) {
                int sign = (int) ((bytes >>> shift) & 255);
                boolean fits = sign == 10 || (sign >= 32 && sign <= 126);
                if (fits && length < ROOM) {
                    signs[length] = (char) sign;
                    length++;
                }
            }
        }

        /** Takes the tokens, and leaves no sign: what reads the tape takes it. */
        void begin() {
            fault = 0;
            tokens = 0;
            behind = 0;
            for (int i = 0; i < ROOM && skipBlanks(); i++) {
                addToken();
                tokens++;
            }
            types[tokens] = END;
            starts[tokens] = length;
            at = 0;
            length = 0;
        }

        private boolean skipBlanks() {
            while (behind < length && (signs[behind] == 10 || signs[behind] == 32)) {
                behind++;
            }
            return behind < length;
        }

        private void addToken() {
            char sign = signs[behind];
            starts[tokens] = behind;
            if (isLetter(sign)) {
                addWord();
            } else if (isFigure(sign)) {
                addNumber();
            } else {
                behind++;
                types[tokens] = "()<=+-*;".indexOf(sign) >= 0 ? SIGN : ODD;
                values[tokens] = sign;
            }
        }

        private void addWord() {
            int start = behind;
            long letters = 0;
            while (behind < length && isLetter(signs[behind])) {
                letters = (letters << LETTER_BITS) + (signs[behind] - 'a' + 1);
                behind++;
            }
            if (behind - start > LONGEST_WORD) {
                types[tokens] = ODD;
                return;
            }
            values[tokens] = ((long) (behind - start) << LENGTH_SHIFT) + letters;
            types[tokens] = isSquareWord(tokens) || isOtherWord(tokens) ? KEPT : NAME;
        }

        private void addNumber() {
            int start = behind;
            int value = 0;
            while (behind < length && isFigure(signs[behind])) {
                value = value * 10 + (signs[behind] - '0');
                behind++;
            }
            values[tokens] = value;
            types[tokens] = behind - start > LONGEST_NUMBER ? ODD : NUMBER;
        }

        private static boolean isLetter(char sign) {
            return sign >= 'a' && sign <= 'z';
        }

        private static boolean isFigure(char sign) {
            return sign >= '0' && sign <= '9';
        }

        private boolean isSquareWord(int token) {
            return spells(token, "sort") || spells(token, "colour") || spells(token, "as")
                || spells(token, "rule") || spells(token, "is") || spells(token, "says")
                || spells(token, "walker") || spells(token, "at") || spells(token, "goes")
                || spells(token, "gusts") || spells(token, "reads");
        }

        private boolean isOtherWord(int token) {
            return spells(token, "tick") || spells(token, "move") || spells(token, "shut")
                || spells(token, "open") || spells(token, "plain") || spells(token, "bare")
                || spells(token, "lover") || spells(token, "bent") || spells(token, "not")
                || spells(token, "and") || spells(token, "or");
        }

        private boolean spells(int token, String text) {
            if (values[token] >> LENGTH_SHIFT != text.length()) {
                return false;
            }
            for (int i = 0; i < text.length(); i++) {
                if (signs[starts[token] + i] != text.charAt(i)) {
                    return false;
                }
            }
            return true;
        }

        boolean atEnd() {
            return types[at] == END;
        }

        boolean atName() {
            return types[at] == NAME;
        }

        boolean atNumber() {
            return types[at] == NUMBER;
        }

        boolean atSign(char sign) {
            return types[at] == SIGN && values[at] == sign;
        }

        boolean atWord(String text) {
            return (types[at] == KEPT || types[at] == NAME) && spells(at, text);
        }

        long word() {
            return values[at];
        }

        int number() {
            return (int) values[at];
        }

        boolean pass() {
            if (at < tokens) {
                at++;
            }
            return true;
        }

        boolean passWord(String text) {
            return atWord(text) ? pass() : refuse(1);
        }

        boolean passSign(char sign) {
            return atSign(sign) ? pass() : refuse(1);
        }

        boolean checkNumber(int least, int greatest) {
            if (!atNumber()) {
                return refuse(1);
            }
            return (number() >= least && number() <= greatest) || refuse(4);
        }

        /** Says no, so that a reader can hand on at once what is wrong with this token. */
        boolean refuse(int kind) {
            fault = kind + 16 * starts[at];
            return false;
        }
    }

    /** What a square's text tells. */
    private static final class Square {
        static final int PLAIN = 0;
        static final int BARE = 1;
        static final int LOVER = 2;
        static final int BENT = 3;
        static final int MOST_STEPS = 6;
        static final int MOST_GUSTS = 8;

        final long[] sortNames = new long[MOST_SORTS];
        int sortCount;
        final long[] colourNames = new long[MOST_COLOURS];
        final int[] colourSorts = new int[MOST_COLOURS];
        int colourCount;
        final int[] ruleMakes = new int[MOST_RULES];
        final int[] ruleFirsts = new int[MOST_RULES];
        final int[] ruleSeconds = new int[MOST_RULES];
        int ruleCount;
        int saysSort = NONE;
        final long[] walkerNames = new long[MOST_WALKERS];
        final int[] kinds = new int[MOST_WALKERS];
        final int[] walkerColours = new int[MOST_WALKERS];
        final int[] starts = new int[MOST_WALKERS];
        final int[] stepRows = new int[MOST_WALKERS * MOST_STEPS];
        final int[] stepCounts = new int[MOST_WALKERS];
        int walkerCount;
        final int[] gusts = new int[MOST_GUSTS];
        int gustCount;
        final Law law = new Law();

        void clear() {
            sortCount = 0;
            colourCount = 0;
            ruleCount = 0;
            saysSort = NONE;
            walkerCount = 0;
            gustCount = 0;
            law.clear();
        }

        /** The sort that makes a sentence said: without says it is the first one told. */
        int goalSort() {
            return saysSort == NONE ? 0 : saysSort;
        }

        int sortNamed(long name) {
            return placeOf(name, sortNames, sortCount);
        }

        int colourNamed(long name) {
            return placeOf(name, colourNames, colourCount);
        }

        int walkerNamed(long name) {
            return placeOf(name, walkerNames, walkerCount);
        }

        boolean isTold(long name) {
            return sortNamed(name) != NONE || colourNamed(name) != NONE || walkerNamed(name) != NONE;
        }

        private static int placeOf(long name, long[] names, int count) {
            for (int i = 0; i < count && i < names.length; i++) {
                if (names[i] == name) {
                    return i;
                }
            }
            return NONE;
        }

        boolean hasRule(int makes, int first, int second) {
            for (int r = 0; r < ruleCount; r++) {
                if (ruleMakes[r] == makes && ruleFirsts[r] == first && ruleSeconds[r] == second) {
                    return true;
                }
            }
            return false;
        }

        int stepOf(int walker, int hour) {
            int n = stepCounts[walker];
            return n < 1 || hour < 0 ? 0 : stepRows[walker * MOST_STEPS + hour % n];
        }

        int gustOf(int hour) {
            return gustCount < 1 || hour < 0 ? CALM : gusts[hour % gustCount];
        }

        int shownBy(int walker) {
            int colour = walkerColours[walker];
            if (kinds[walker] == BARE) {
                return STOP;
            }
            if (kinds[walker] == BENT) {
                return colour + 1 < colourCount ? colour + 1 : 0;
            }
            return colour;
        }
    }

    /** The expression behind reads, its operands ahead of what joins them. */
    private static final class Law {
        static final int SPOT = -1;
        static final int CROWD = -2;
        static final int HOUR = -3;
        static final int FIRST = -4;
        static final int NOT = -5;
        static final int AND = -6;
        static final int OR = -7;
        static final int LESS = -8;
        static final int SAME = -9;
        static final int PLUS = -10;
        static final int MINUS = -11;
        static final int TIMES = -12;

        private final int[] parts = new int[Tape.ROOM];
        private int count;
        /** Five nested parts keep four values each waiting at most. */
        private final int[] stack = new int[32];
        private int height;

        void clear() {
            count = 0;
        }

        boolean isTold() {
            return count > 0;
        }

        /** True, so that a reader can go on behind it. */
        boolean add(int part) {
            if (count < parts.length) {
                parts[count] = part;
                count++;
            }
            return true;
        }

        int valueFor(int spot, int crowd, int hour, int first) {
            if (count == 0) {
                return first;
            }
            height = 0;
            for (int i = 0; i < count; i++) {
                int part = parts[i];
                if (part == SPOT) {
                    push(spot);
                } else if (part == CROWD) {
                    push(crowd);
                } else if (part == HOUR) {
                    push(hour);
                } else if (part == FIRST) {
                    push(first);
                } else if (part == NOT) {
                    push(pop() == 0 ? 1 : 0);
                } else if (part < 0) {
                    int right = pop();
                    push(joined(part, pop(), right));
                } else {
                    push(part);
                }
            }
            return pop();
        }

        private void push(int value) {
            if (height < stack.length) {
                stack[height] = value;
                height++;
            }
        }

        private int pop() {
            if (height < 1) {
                return 0;
            }
            height--;
            return stack[height];
        }

        private static int joined(int part, int left, int right) {
            switch (part) {
                case AND:
                    return left != 0 && right != 0 ? 1 : 0;
                case OR:
                    return left != 0 || right != 0 ? 1 : 0;
                case LESS:
                    return left < right ? 1 : 0;
                case SAME:
                    return left == right ? 1 : 0;
                case PLUS:
                    return left + right;
                case MINUS:
                    return left - right;
                default:
                    return left * right;
            }
        }
    }

    /** Reads an expression from the tape into a law. */
    private static final class LawReader {
        private static final int DEEPEST = 5;

        private static boolean fill(Tape tape, Law law, int depth) {
            boolean good = addTest(tape, law, depth);
            for (int i = 0; good && i < Tape.ROOM && (tape.atWord("and") || tape.atWord("or")); i++) {
                int joint = tape.atWord("and") ? Law.AND : Law.OR;
                good = tape.pass() && addTest(tape, law, depth) && law.add(joint);
            }
            return good;
        }

        private static boolean addTest(Tape tape, Law law, int depth) {
            boolean good = addSum(tape, law, depth);
            if (good && (tape.atSign('<') || tape.atSign('='))) {
                int joint = tape.atSign('<') ? Law.LESS : Law.SAME;
                good = tape.pass() && addSum(tape, law, depth) && law.add(joint);
            }
            return good;
        }

        private static boolean addSum(Tape tape, Law law, int depth) {
            boolean good = addProduct(tape, law, depth);
            for (int i = 0; good && i < Tape.ROOM && (tape.atSign('+') || tape.atSign('-')); i++) {
                int joint = tape.atSign('+') ? Law.PLUS : Law.MINUS;
                good = tape.pass() && addProduct(tape, law, depth) && law.add(joint);
            }
            return good;
        }

        private static boolean addProduct(Tape tape, Law law, int depth) {
            boolean good = addPart(tape, law, depth);
            for (int i = 0; good && i < Tape.ROOM && tape.atSign('*'); i++) {
                good = tape.pass() && addPart(tape, law, depth) && law.add(Law.TIMES);
            }
            return good;
        }

        private static boolean addPart(Tape tape, Law law, int depth) {
            int fact = factAt(tape);
            boolean not = tape.atWord("not");
            boolean nest = tape.atSign('(');
            if (fact == 0 && !not && !nest && !tape.atNumber()) {
                return tape.refuse(1);
            }
            if (depth >= DEEPEST) {
                return tape.refuse(5);
            }
            if (not) {
                return tape.pass() && addPart(tape, law, depth + 1) && law.add(Law.NOT);
            }
            if (nest) {
                return tape.pass() && fill(tape, law, depth + 1) && tape.passSign(')');
            }
            return law.add(fact == 0 ? tape.number() : fact) && tape.pass();
        }

        private static int factAt(Tape tape) {
            if (tape.atWord("spot")) {
                return Law.SPOT;
            }
            if (tape.atWord("crowd")) {
                return Law.CROWD;
            }
            if (tape.atWord("hour")) {
                return Law.HOUR;
            }
            return tape.atWord("first") ? Law.FIRST : 0;
        }
    }

    /** Reads a square from the tape. */
    private static final class SquareReader {
        static int fill(Tape tape, Square square) {
            square.clear();
            tape.begin();
            boolean good = true;
            for (int i = 0; good && i < Tape.ROOM && !tape.atEnd(); i++) {
                good = addLine(tape, square) && tape.passSign(';');
            }
            return tape.fault;
        }

        private static boolean addLine(Tape tape, Square square) {
            if (tape.atWord("sort")) {
                return addSort(tape, square);
            }
            if (tape.atWord("colour")) {
                return addColour(tape, square);
            }
            if (tape.atWord("rule")) {
                return addRule(tape, square);
            }
            if (tape.atWord("says")) {
                return addSays(tape, square);
            }
            if (tape.atWord("walker")) {
                return addWalker(tape, square) && addWalk(tape, square);
            }
            if (tape.atWord("gusts")) {
                return addGusts(tape, square);
            }
            return tape.atWord("reads") ? addReads(tape, square) : tape.refuse(1);
        }

        private static boolean addSort(Tape tape, Square square) {
            int n = square.sortCount;
            if (n >= MOST_SORTS) {
                return tape.refuse(5);
            }
            tape.pass();
            if (!checkNewName(tape, square)) {
                return false;
            }
            square.sortNames[n] = tape.word();
            square.sortCount++;
            return tape.pass();
        }

        private static boolean addColour(Tape tape, Square square) {
            int n = square.colourCount;
            if (n >= MOST_COLOURS) {
                return tape.refuse(5);
            }
            tape.pass();
            if (!checkNewName(tape, square)) {
                return false;
            }
            square.colourNames[n] = tape.word();
            tape.pass();
            if (!tape.passWord("as") || !checkSort(tape, square)) {
                return false;
            }
            square.colourSorts[n] = square.sortNamed(tape.word());
            square.colourCount++;
            return tape.pass();
        }

        private static boolean addRule(Tape tape, Square square) {
            int n = square.ruleCount;
            if (n >= MOST_RULES) {
                return tape.refuse(5);
            }
            tape.pass();
            if (!checkSort(tape, square)) {
                return false;
            }
            int makes = square.sortNamed(tape.word());
            tape.pass();
            if (!tape.passWord("is") || !checkSort(tape, square)) {
                return false;
            }
            int first = square.sortNamed(tape.word());
            tape.pass();
            if (!checkSort(tape, square)) {
                return false;
            }
            int second = square.sortNamed(tape.word());
            if (square.hasRule(makes, first, second)) {
                return tape.refuse(3);
            }
            square.ruleMakes[n] = makes;
            square.ruleFirsts[n] = first;
            square.ruleSeconds[n] = second;
            square.ruleCount++;
            return tape.pass();
        }

        private static boolean addSays(Tape tape, Square square) {
            if (square.saysSort != NONE) {
                return tape.refuse(3);
            }
            tape.pass();
            if (!checkSort(tape, square)) {
                return false;
            }
            square.saysSort = square.sortNamed(tape.word());
            return tape.pass();
        }

        private static boolean addWalker(Tape tape, Square square) {
            int n = square.walkerCount;
            if (n >= MOST_WALKERS) {
                return tape.refuse(5);
            }
            tape.pass();
            if (!checkNewName(tape, square)) {
                return false;
            }
            square.walkerNames[n] = tape.word();
            tape.pass();
            int kind = kindAt(tape);
            if (kind == NONE) {
                return tape.refuse(1);
            }
            square.kinds[n] = kind;
            tape.pass();
            if (!checkColour(tape, square)) {
                return false;
            }
            square.walkerColours[n] = square.colourNamed(tape.word());
            return tape.pass();
        }

        private static int kindAt(Tape tape) {
            if (tape.atWord("plain")) {
                return Square.PLAIN;
            }
            if (tape.atWord("bare")) {
                return Square.BARE;
            }
            if (tape.atWord("lover")) {
                return Square.LOVER;
            }
            return tape.atWord("bent") ? Square.BENT : NONE;
        }

        private static boolean addWalk(Tape tape, Square square) {
            int n = square.walkerCount;
            if (n >= MOST_WALKERS || !tape.passWord("at") || !tape.checkNumber(0, PLACES - 1)) {
                return false;
            }
            square.starts[n] = tape.number();
            tape.pass();
            if (!tape.passWord("goes")) {
                return false;
            }
            int from = n * Square.MOST_STEPS;
            square.stepCounts[n] = takeNumbers(tape, square.stepRows, from, Square.MOST_STEPS, 2);
            square.walkerCount++;
            return tape.fault == 0;
        }

        private static boolean addGusts(Tape tape, Square square) {
            if (square.gustCount > 0) {
                return tape.refuse(3);
            }
            tape.pass();
            square.gustCount = takeNumbers(tape, square.gusts, 0, Square.MOST_GUSTS, CALM);
            return tape.fault == 0;
        }

        private static boolean addReads(Tape tape, Square square) {
            if (square.law.isTold()) {
                return tape.refuse(3);
            }
            tape.pass();
            return LawReader.fill(tape, square.law, 0);
        }

        /** How many came; the tape holds the fault, if there is one. */
        private static int takeNumbers(Tape tape, int[] row, int from, int room, int greatest) {
            int n = 0;
            boolean good = tape.checkNumber(0, greatest);
            while (good && n < room && from + n < row.length) {
                row[from + n] = tape.number();
                n++;
                tape.pass();
                good = tape.atNumber() && tape.checkNumber(0, greatest);
            }
            if (good) {
                tape.refuse(5);
            }
            return n;
        }

        private static boolean checkNewName(Tape tape, Square square) {
            if (!tape.atName()) {
                return tape.refuse(1);
            }
            return !square.isTold(tape.word()) || tape.refuse(3);
        }

        private static boolean checkSort(Tape tape, Square square) {
            if (!tape.atName()) {
                return tape.refuse(1);
            }
            return square.sortNamed(tape.word()) != NONE || tape.refuse(2);
        }

        static boolean checkColour(Tape tape, Square square) {
            if (!tape.atName()) {
                return tape.refuse(1);
            }
            return square.colourNamed(tape.word()) != NONE || tape.refuse(2);
        }
    }

    /** What is told beside the square: the day, the wish, and what was seen. */
    private static final class Book {
        static final int MOST_LINES = 40;
        static final int MOST_WISHES = 7;
        static final int MOST_SIGHTS = 8;

        static final int TICK_LINE = 0;
        static final int MOVE_LINE = 1;
        static final int SHUT_LINE = 2;
        static final int OPEN_LINE = 3;

        /** Each line: its kind, 4 times the walker, 32 times the step. */
        final int[] lines = new int[MOST_LINES];
        int lineCount;
        final int[] wishes = new int[MOST_WISHES];
        int wishCount;
        /** Each sight: the place, 10 times the ticks, 1000 more if he is there. */
        private final int[] sights = new int[MOST_SIGHTS];
        int sightCount;

        static int lineOf(int kind, int walker, int step) {
            return kind + 4 * walker + 32 * step;
        }

        void clear() {
            lineCount = 0;
            wishCount = 0;
            sightCount = 0;
        }

        void copy(Book other) {
            setLines(other.lines, other.lineCount);
            setWishes(other.wishes, other.wishCount);
            System.arraycopy(other.sights, 0, sights, 0, MOST_SIGHTS);
            sightCount = other.sightCount;
        }

        void setLines(int[] row, int count) {
            System.arraycopy(row, 0, lines, 0, MOST_LINES);
            lineCount = count;
        }

        void setWishes(int[] row, int count) {
            System.arraycopy(row, 0, wishes, 0, MOST_WISHES);
            wishCount = count;
        }

        boolean addSight(int place, int ticks, boolean there) {
            if (sightCount >= MOST_SIGHTS) {
                return false;
            }
            sights[sightCount] = place + 10 * ticks + (there ? 1000 : 0);
            sightCount++;
            return true;
        }

        int sightPlace(int i) {
            return sights[i] % 10;
        }

        int sightTicks(int i) {
            return sights[i] / 10 % 100;
        }

        boolean sightThere(int i) {
            return sights[i] >= 1000;
        }
    }

    /** Reads a day or a wish from the tape. */
    private static final class BookReader {
        /** Kept apart until no fault can come, as the book stays as it is by one. */
        private final int[] draft = new int[Book.MOST_LINES];

        int fillDay(Tape tape, Square square, Book book) {
            int n = 0;
            boolean good = true;
            tape.begin();
            while (good && n < Book.MOST_LINES && !tape.atEnd()) {
                draft[n] = takeLine(tape, square);
                good = tape.fault == 0 && tape.passSign(';');
                n++;
            }
            if (good && !tape.atEnd()) {
                good = tape.refuse(kindAt(tape) == NONE ? 1 : 5);
            }
            if (good) {
                book.setLines(draft, n);
            }
            return tape.fault;
        }

        private static int kindAt(Tape tape) {
            if (tape.atWord("tick")) {
                return Book.TICK_LINE;
            }
            if (tape.atWord("move")) {
                return Book.MOVE_LINE;
            }
            if (tape.atWord("shut")) {
                return Book.SHUT_LINE;
            }
            return tape.atWord("open") ? Book.OPEN_LINE : NONE;
        }

        /** The line; the tape holds the fault, if there is one. */
        private static int takeLine(Tape tape, Square square) {
            int kind = kindAt(tape);
            int walker = 0;
            int step = 0;
            boolean good = kind == NONE ? tape.refuse(1) : tape.pass();
            if (good && kind != Book.TICK_LINE && checkWalker(tape, square)) {
                walker = square.walkerNamed(tape.word());
                tape.pass();
                if (kind == Book.MOVE_LINE && tape.checkNumber(1, 2)) {
                    step = tape.number();
                    tape.pass();
                }
            }
            return Book.lineOf(kind, walker, step);
        }

        private static boolean checkWalker(Tape tape, Square square) {
            if (!tape.atName()) {
                return tape.refuse(1);
            }
            return square.walkerNamed(tape.word()) != NONE || tape.refuse(2);
        }

        int fillWish(Tape tape, Square square, Book book) {
            int n = 0;
            tape.begin();
            boolean good = SquareReader.checkColour(tape, square);
            while (good && n < Book.MOST_WISHES) {
                draft[n] = square.colourNamed(tape.word());
                n++;
                tape.pass();
                good = !tape.atEnd() && SquareReader.checkColour(tape, square);
            }
            if (good) {
                tape.refuse(5);
            }
            if (tape.fault == 0) {
                book.setWishes(draft, n);
            }
            return tape.fault;
        }
    }

    /** How it is: the hour, where the walkers stand, whose umbrella is open. */
    private static final class Scene {
        int hour;
        int open;
        final int[] places = new int[MOST_WALKERS];

        void begin(Square square) {
            hour = 0;
            open = (1 << square.walkerCount) - 1;
            System.arraycopy(square.starts, 0, places, 0, MOST_WALKERS);
        }

        void copy(Scene other) {
            hour = other.hour;
            open = other.open;
            System.arraycopy(other.places, 0, places, 0, MOST_WALKERS);
        }

        /** All in one number, so that to keep it makes no object. */
        long packed() {
            long row = hour;
            for (int w = 0; w < MOST_WALKERS; w++) {
                row = row * 16 + places[w];
            }
            return row * 128 + open;
        }

        void unpack(long row) {
            open = (int) (row & 127);
            long rest = row >> 7;
            for (int w = MOST_WALKERS - 1; w >= 0; w--) {
                places[w] = (int) (rest & 15);
                rest = rest >> 4;
            }
            hour = (int) rest;
        }

        void goOn(Square square) {
            for (int w = 0; w < square.walkerCount; w++) {
                places[w] = placeBehind(places[w], square.stepOf(w, hour));
            }
            hour++;
        }

        static int placeBehind(int place, int step) {
            if (step == 1) {
                return place + 1 < PLACES ? place + 1 : place;
            }
            return step == 2 && place > 0 ? place - 1 : place;
        }

        boolean isOpen(int walker) {
            return ((open >> walker) & 1) == 1;
        }

        boolean canStep(int walker, int step) {
            return placeBehind(places[walker], step) != places[walker];
        }

        void stepAside(int walker, int step) {
            places[walker] = placeBehind(places[walker], step);
        }

        void close(int walker) {
            open &= ~(1 << walker);
        }

        void putUp(int walker) {
            open |= 1 << walker;
        }

        /** False if the line can't be: nothing is done then. */
        boolean obey(Square square, int line) {
            int kind = line & 3;
            int walker = (line >> 2) & 7;
            int step = line >> 5;
            if (kind == Book.TICK_LINE) {
                goOn(square);
                return true;
            }
            if (walker >= square.walkerCount) {
                return false;
            }
            if (kind == Book.MOVE_LINE) {
                boolean can = canStep(walker, step);
                stepAside(walker, step);
                return can;
            }
            boolean can = isOpen(walker) == (kind == Book.SHUT_LINE);
            if (kind == Book.SHUT_LINE) {
                close(walker);
            } else {
                putUp(walker);
            }
            return can;
        }

        int whoStandAt(int place, int walkers) {
            int bits = 0;
            for (int w = 0; w < walkers; w++) {
                bits |= places[w] == place ? 1 << w : 0;
            }
            return bits;
        }

        int sumOfPlaces(int walkers) {
            int sum = 0;
            for (int w = 0; w < walkers; w++) {
                sum += places[w];
            }
            return sum;
        }
    }

    /** What the window reads of a scene: look once, then take it by gusts and by who shuts too. */
    private static final class Reading {
        final int[] shown = new int[MOST_WALKERS];
        int length;
        int readers;
        final int[] begins = new int[MOST_WALKERS];
        final int[] lengths = new int[MOST_WALKERS];
        int sentences;
        private final int[] order = new int[MOST_WALKERS];
        /** Who is open, is read by the law, and is no lover beside another one. */
        private int able;
        private final int[] standing = new int[PLACES];
        private final int[] lovers = new int[PLACES];
        private final int[] lowest = new int[PLACES];

        void look(Square square, Scene scene) {
            countPlaces(square, scene);
            sortByPlaces(square, scene);
            able = 0;
            for (int w = 0; w < square.walkerCount; w++) {
                if (isAble(square, scene, w)) {
                    able |= 1 << w;
                }
            }
        }

        private void countPlaces(Square square, Scene scene) {
            Arrays.fill(standing, 0);
            Arrays.fill(lovers, 0);
            for (int w = square.walkerCount - 1; w >= 0; w--) {
                int place = scene.places[w];
                standing[place]++;
                lovers[place] += square.kinds[w] == Square.LOVER ? 1 : 0;
                lowest[place] = w;
            }
        }

        private void sortByPlaces(Square square, Scene scene) {
            for (int w = 0; w < square.walkerCount; w++) {
                int at = w;
                while (at > 0 && scene.places[order[at - 1]] > scene.places[w]) {
                    order[at] = order[at - 1];
                    at--;
                }
                order[at] = w;
            }
        }

        private boolean isAble(Square square, Scene scene, int w) {
            int place = scene.places[w];
            if (!scene.isOpen(w) || (square.kinds[w] == Square.LOVER && lovers[place] > 1)) {
                return false;
            }
            int first = lowest[place] == w ? 1 : 0;
            return square.law.valueFor(place, standing[place] - 1, scene.hour, first) != 0;
        }

        /** Only behind a look at the same scene. */
        void take(Square square, Scene scene, int shutToo, int gust) {
            length = 0;
            readers = 0;
            sentences = 0;
            boolean within = false;
            for (int i = 0; i < square.walkerCount; i++) {
                int w = order[i];
                int bit = 1 << w;
                if ((able & ~shutToo & bit) != 0 && scene.places[w] != gust) {
                    readers |= bit;
                    within = addShown(square.shownBy(w), within);
                }
            }
        }

        /** Whether a sentence is open behind it. */
        private boolean addShown(int colour, boolean within) {
            if (colour != STOP) {
                if (!within) {
                    begins[sentences] = length;
                    lengths[sentences] = 0;
                    sentences++;
                }
                lengths[sentences - 1]++;
            }
            shown[length] = colour;
            length++;
            return colour != STOP;
        }
    }

    /** In how many ways each part of a row of colours is of each sort, and by which trees. */
    private static final class Chart {
        private static final int CELLS = MOST_WALKERS * MOST_WALKERS * MOST_SORTS;

        private final int[] ways = new int[CELLS];
        /** The first row of rules of each part's trees up to a depth, four bits a rule; NONE: no tree. */
        private int[] rows = new int[CELLS];
        private int[] shallower = new int[CELLS];
        private int length;
        /** Where the whole row as what says tells lies; NONE as long as there is no row. */
        private int goal = NONE;

        private static int cell(int from, int to) {
            return (from * MOST_WALKERS + to) * MOST_SORTS;
        }

        void fill(Square square, int[] colours, int begin, int count) {
            length = count;
            goal = length < 1 ? NONE : cell(0, length - 1) + square.goalSort();
            for (int i = 0; i < length; i++) {
                int at = cell(i, i);
                Arrays.fill(ways, at, at + MOST_SORTS, 0);
                ways[at + square.colourSorts[colours[begin + i]]] = 1;
            }
            for (int span = 1; span < length; span++) {
                for (int from = 0; from + span < length; from++) {
                    addWays(square, from, from + span);
                }
            }
        }

        private void addWays(Square square, int from, int to) {
            int whole = cell(from, to);
            Arrays.fill(ways, whole, whole + MOST_SORTS, 0);
            for (int end = from; end < to; end++) {
                int left = cell(from, end);
                int right = cell(end + 1, to);
                for (int r = 0; r < square.ruleCount; r++) {
                    int first = ways[left + square.ruleFirsts[r]];
                    if (first > 0) {
                        ways[whole + square.ruleMakes[r]] += first * ways[right + square.ruleSeconds[r]];
                    }
                }
            }
        }

        int waysOfWhole() {
            return goal == NONE ? 0 : ways[goal];
        }

        int sortBits(int from, int to) {
            if (from < 0 || from > to || to >= length) {
                return NONE;
            }
            int at = cell(from, to);
            int bits = 0;
            for (int s = 0; s < MOST_SORTS; s++) {
                bits |= ways[at + s] > 0 ? 1 << s : 0;
            }
            return bits;
        }

        int leastDepth(Square square) {
            if (waysOfWhole() == 0) {
                return NONE;
            }
            startRows();
            int depth = 0;
            while (depth < length && rows[goal] == NONE) {
                deepenRows(square);
                depth++;
            }
            return depth;
        }

        int ruleInTree(Square square, int i) {
            if (i < 0 || i >= length - 1 || leastDepth(square) == NONE) {
                return NONE;
            }
            return (rows[goal] >> (4 * (length - 2 - i))) & 15;
        }

        private void startRows() {
            Arrays.fill(rows, NONE);
            for (int i = 0; i < length; i++) {
                int at = cell(i, i);
                for (int s = 0; s < MOST_SORTS; s++) {
                    rows[at + s] = ways[at + s] > 0 ? 0 : NONE;
                }
            }
        }

        /** Each part is made anew of what was not so deep; one colour alone stays as it is. */
        private void deepenRows(Square square) {
            int[] old = shallower;
            shallower = rows;
            rows = old;
            startRows();
            for (int from = 0; from < length; from++) {
                for (int to = from + 1; to < length; to++) {
                    for (int end = from; end < to; end++) {
                        joinRows(square, from, end, to);
                    }
                }
            }
        }

        /** Rows of one part are of one length, so the first one is the least number. */
        private void joinRows(Square square, int from, int end, int to) {
            int left = cell(from, end);
            int right = cell(end + 1, to);
            for (int r = 0; r < square.ruleCount; r++) {
                int first = shallower[left + square.ruleFirsts[r]];
                int second = shallower[right + square.ruleSeconds[r]];
                if (first != NONE && second != NONE) {
                    int at = cell(from, to) + square.ruleMakes[r];
                    int row = (r << (4 * (to - from - 1))) | (first << (4 * (to - end - 1))) | second;
                    rows[at] = rows[at] == NONE ? row : Math.min(rows[at], row);
                }
            }
        }
    }

    /** The fewest steps by which walkers show a wish. */
    private static final class Wisher {
        private static final int FAR = 1000;
        private static final int WIDTH = PLACES + 1;

        final int[] row = new int[MOST_WALKERS];
        private int walkers;
        private int names;
        private final int[] wanted = new int[MOST_WALKERS];
        private final int[] shown = new int[MOST_WALKERS];
        private final int[] places = new int[MOST_WALKERS];
        /** By who is placed already and the first place left: the fewest steps of all others. */
        private final int[] rest = new int[(1 << MOST_WALKERS) * WIDTH];
        /** By the first place left: the fewest steps of the row so far. */
        private int[] spent = new int[WIDTH];
        private int[] tried = new int[WIDTH];

        int fewest(Square square, Scene scene, Book book) {
            take(square, scene, book);
            if (names < 1 || names > walkers) {
                return NONE;
            }
            for (int placed = (1 << walkers) - 1; placed >= 0; placed--) {
                fillRest(placed);
            }
            if (rest[0] >= FAR) {
                return NONE;
            }
            findRow(rest[0]);
            return rest[0];
        }

        private void take(Square square, Scene scene, Book book) {
            names = book.wishCount;
            System.arraycopy(book.wishes, 0, wanted, 0, MOST_WALKERS);
            walkers = square.walkerCount;
            for (int w = 0; w < walkers; w++) {
                shown[w] = square.shownBy(w);
                places[w] = scene.places[w];
            }
        }

        private void fillRest(int placed) {
            int at = placed * WIDTH;
            int n = Integer.bitCount(placed);
            Arrays.fill(rest, at, at + WIDTH, n < names ? FAR : 0);
            for (int w = 0; w < walkers && n < names; w++) {
                if (fits(w, n, placed)) {
                    addWalks(w, at, (placed | (1 << w)) * WIDTH);
                }
            }
            for (int p = PLACES - 1; p >= 0; p--) {
                rest[at + p] = Math.min(rest[at + p], rest[at + p + 1]);
            }
        }

        private void addWalks(int w, int at, int then) {
            for (int p = 0; p < PLACES; p++) {
                rest[at + p] = Math.min(rest[at + p], stepsTo(w, p) + rest[then + p + 1]);
            }
        }

        private boolean fits(int w, int n, int placed) {
            return (placed & (1 << w)) == 0 && shown[w] == wanted[n];
        }

        private int stepsTo(int w, int place) {
            return Math.abs(places[w] - place);
        }

        /** The first walker by whom the best sum can still be had, for one name behind another. */
        private void findRow(int best) {
            Arrays.fill(spent, FAR);
            spent[0] = 0;
            int placed = 0;
            for (int n = 0; n < names; n++) {
                int w = firstBy(best, n, placed);
                row[n] = w;
                placed |= 1 << w;
                int[] old = spent;
                spent = tried;
                tried = old;
            }
        }

        private int firstBy(int best, int n, int placed) {
            for (int w = 0; w < walkers; w++) {
                if (fits(w, n, placed) && bestWith(w, placed) == best) {
                    return w;
                }
            }
            return 0;
        }

        private int bestWith(int w, int placed) {
            int then = (placed | (1 << w)) * WIDTH;
            int best = FAR;
            int soFar = FAR;
            tried[0] = FAR;
            for (int p = 0; p < PLACES; p++) {
                soFar = Math.min(soFar, spent[p]);
                tried[p + 1] = soFar + stepsTo(w, p);
                best = Math.min(best, tried[p + 1] + rest[then + p + 1]);
            }
            return best;
        }
    }
}
