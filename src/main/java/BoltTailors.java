import java.util.Arrays;

/** Two tailors who cut one bolt of striped cloth by turns. */
public final class BoltTailors {
    public static final int INVALID_ARGUMENT = -1;
    public static final int NOT_POSSIBLE = -2;
    public static final int LIMIT_REACHED = -3;
    public static final int NOT_FOUND = -4;
    public static final int LONGEST = 0, FOLD = 1, MATCH = 2;

    private static final int NO_ERROR = 0;
    private static final int MOST_STRIPES = 20;
    private static final int MOST_CUT = 5;
    private static final int MOST_STATES = 4;
    private static final int MOST_SIGNS = 60;
    private static final int MOST_PATTERN = 6;

    private static final int COLOURS = 6;
    /** Stands for the last colour of a coat without a piece; no stripe has it, so nothing matches it. */
    private static final int NO_COLOUR = 6;
    private static final int COAT_ENDS = 7;

    private static final int SETTINGS = 3;
    private static final int[] LOWEST_VALUES = {1, 0, 0};
    private static final int[] HIGHEST_VALUES = {5, 9, 9};
    private static final int[] FIRST_VALUES = {4, 3, 2};
    private static final String FIRST_BOLT = "abcabcabcabc";

    /** A cut is told as one number: its stripes, and this much more if it is from the right. */
    private static final int FROM_RIGHT = 10;
    private static final int BY_LEAD = 0;
    private static final int BY_GREED = 1;
    private static final int LEAD_ZERO = 1000;
    /** Below every lead and every worth, so that whatever is told is above it. */
    private static final int UNTOLD = -1000000;

    private static final int IS_FROM_LEFT = 1;
    private static final int IS_MATCH = 2;
    private static final int IS_FOLD = 4;

    private final Game now = new Game();
    /** Where a game is tried out to its end; made once, because what a run makes is counted. */
    private final Game trial = new Game();
    private final Game snapshot = new Game();
    private boolean hasSnapshot;
    private final Game[] past = new Game[MOST_STATES];
    private int states;
    private final char[] pad = new char[MOST_SIGNS];
    private int signs;
    /** Each way of telling leads keeps its own, so that neither leans on the other. */
    private final Leads leadsByRows = new Leads();
    private final Leads leadsByCuts = new Leads();

    public BoltTailors() {
        for (int i = 0; i < past.length; i++) {
            past[i] = new Game();
        }
    }

    // ---- the game

    public int cut(int stripes, boolean fromLeft) {
        int error = errorOfCut(stripes);
        if (error != NO_ERROR) {
            return error;
        }
        record();
        return now.sew(codeOf(stripes, fromLeft));
    }

    public int best() {
        return cutBy(BY_LEAD);
    }

    public int greedy() {
        return cutBy(BY_GREED);
    }

    public int again() {
        record();
        now.begin();
        return now.stripes;
    }

    public int mirror() {
        record();
        return now.turnRound();
    }

    public int set(int what, int value) {
        if (what < 0 || what >= SETTINGS) {
            return INVALID_ARGUMENT;
        }
        if (value < at(LOWEST_VALUES, what) || value > at(HIGHEST_VALUES, what)) {
            return INVALID_ARGUMENT;
        }
        record();
        int before = at(now.settings, what);
        put(now.settings, what, value);
        return before;
    }

    // ---- texts

    public int append(int code) {
        if (code < 33 || code > 126) {
            return INVALID_ARGUMENT;
        }
        if (signs < 0 || signs >= pad.length) {
            return LIMIT_REACHED;
        }
        pad[signs] = (char) code;
        signs++;
        return signs;
    }

    public int clear() {
        int before = signs;
        signs = 0;
        return before;
    }

    public int fault(int way) {
        if (way < 0 || way > 1) {
            return INVALID_ARGUMENT;
        }
        return way == 0 ? faultAsBolt() : faultAsCuts();
    }

    public int load() {
        if (faultAsBolt() != NOT_FOUND) {
            return NOT_POSSIBLE;
        }
        record();
        int letters = lettersAhead();
        if (signAt(letters) == '*') {
            layPattern(letters);
        } else {
            layLetters(letters, letters, 0);
        }
        signs = 0;
        now.begin();
        return now.stripes;
    }

    public int play() {
        if (faultAsCuts() != NOT_FOUND) {
            return NOT_POSSIBLE;
        }
        record();
        int made = 0;
        for (int i = 0; i < signs; i += isSide(signAt(i)) ? 2 : 1) {
            int code = codeOnPad(i);
            if (code == NOT_POSSIBLE) {
                break;
            }
            now.sew(code);
            made++;
        }
        signs = 0;
        return made;
    }

    // ---- looks; nothing is changed

    public int stripe(int stripe) {
        if (stripe < 0 || stripe >= now.stripes) {
            return INVALID_ARGUMENT;
        }
        return at(now.colours, stripe);
    }

    public int coat(int tailor, int what) {
        if (isNoTailor(tailor) || what < 0 || what > 5) {
            return INVALID_ARGUMENT;
        }
        switch (what) {
            case 0:
                return now.sumOfCoat(now.pieceWorth, tailor);
            case 1:
                return now.piecesOf(tailor);
            case 2:
                return now.sumOfCoat(now.pieceSize, tailor);
            case 3:
                int colour = now.endOfCoat(tailor);
                return colour == NO_COLOUR ? NOT_FOUND : colour;
            case 4:
                return now.piecesWith(IS_MATCH, tailor);
            default:
                return now.piecesWith(IS_FOLD, tailor);
        }
    }

    public int piece(int tailor, int piece, int what) {
        if (isNoTailor(tailor) || piece < 0 || what < 0 || what > 3) {
            return INVALID_ARGUMENT;
        }
        if (piece >= now.piecesOf(tailor)) {
            return NOT_FOUND;
        }
        int number = 2 * piece + tailor;
        switch (what) {
            case 0:
                return at(now.pieceFirst, number);
            case 1:
                return at(now.pieceSize, number);
            case 2:
                return at(now.pieceWorth, number);
            default:
                return (at(now.pieceTraits, number) & IS_FROM_LEFT) != 0 ? 1 : 0;
        }
    }

    public int count(int what) {
        boolean over = now.isOver();
        switch (what) {
            case 0:
                return now.stripes;
            case 1:
                return now.remaining();
            case 2:
                return over ? NOT_FOUND : now.first;
            case 3:
                return over ? NOT_FOUND : now.end - 1;
            case 4:
                return over ? NOT_FOUND : now.onTurn();
            case 5:
                return now.cuts;
            case 6:
                return now.colourChanges();
            case 7:
                return now.coloursLeft();
            case 8:
                return now.longestFold();
            case 9:
            case 10:
            case 11:
                return at(now.settings, what - 9);
            case 12:
                return signs;
            case 13:
                return states;
            default:
                return INVALID_ARGUMENT;
        }
    }

    public int left(int colour) {
        if (colour < 0 || colour >= COLOURS) {
            return INVALID_ARGUMENT;
        }
        return now.stripesLeftOf(colour);
    }

    // ---- what would be; nothing is changed

    public int worth(int stripes, boolean fromLeft) {
        int error = errorOfCut(stripes);
        return error != NO_ERROR ? error : now.worthOfCut(codeOf(stripes, fromLeft));
    }

    public int lead(int way) {
        if (way < 0 || way > 1) {
            return INVALID_ARGUMENT;
        }
        return LEAD_ZERO + (way == 0 ? leadTold(now) : leadGoneInto(now));
    }

    public int leadWith(int stripes, boolean fromLeft) {
        int error = errorOfCut(stripes);
        return error != NO_ERROR ? error : LEAD_ZERO + leadOfCut(now, codeOf(stripes, fromLeft));
    }

    public int bestCut() {
        return choice(now, BY_LEAD);
    }

    public int ended(int zero, int one, int what) {
        if (zero < 0 || zero > 1 || one < 0 || one > 1 || what < 0 || what > 2) {
            return INVALID_ARGUMENT;
        }
        trial.copyFrom(now);
        for (int i = 0; i < MOST_STRIPES && !trial.isOver(); i++) {
            trial.sew(choice(trial, trial.onTurn() == 0 ? zero : one));
        }
        return what == 2 ? trial.cuts - now.cuts : trial.sumOfCoat(trial.pieceWorth, what);
    }

    public double rate() {
        int size = now.sumOfCoat(now.pieceSize, 0) + now.sumOfCoat(now.pieceSize, 1);
        if (size <= 0) {
            return 0.0;
        }
        int worths = now.sumOfCoat(now.pieceWorth, 0) + now.sumOfCoat(now.pieceWorth, 1);
        return (double) worths / (double) size;
    }

    // ---- history, snapshot

    public int undo() {
        Game before = pastAt(states - 1);
        if (before == null) {
            return NOT_POSSIBLE;
        }
        now.copyFrom(before);
        states--;
        return states;
    }

    public int save() {
        snapshot.copyFrom(now);
        hasSnapshot = true;
        return now.remaining();
    }

    public int restore() {
        if (!hasSnapshot) {
            return NOT_POSSIBLE;
        }
        record();
        now.copyFrom(snapshot);
        return now.remaining();
    }

    // ---- the history's places

    private Game pastAt(int state) {
        return state >= 0 && state < past.length ? past[state] : null;
    }

    private void record() {
        if (states >= past.length) {
            dropOldest();
        }
        Game place = pastAt(states);
        if (place != null) {
            place.copyFrom(now);
            states++;
        }
    }

    private void dropOldest() {
        Game oldest = pastAt(0);
        for (int i = 1; i < past.length; i++) {
            past[i - 1] = past[i];
        }
        // its place is used again, because what a run makes is counted
        if (past.length > 0) {
            past[past.length - 1] = oldest;
        }
        states = past.length - 1;
    }

    // ---- cuts and choices

    private static int codeOf(int size, boolean fromLeft) {
        return fromLeft ? size : size + FROM_RIGHT;
    }

    private static boolean isFromLeft(int code) {
        return code < FROM_RIGHT;
    }

    private static int sizeOf(int code) {
        return isFromLeft(code) ? code : code - FROM_RIGHT;
    }

    private static int pieceStart(int first, int end, int code) {
        return isFromLeft(code) ? first : end - sizeOf(code);
    }

    private static int restStart(int first, int code) {
        return isFromLeft(code) ? first + sizeOf(code) : first;
    }

    private static int restEnd(int end, int code) {
        return isFromLeft(code) ? end : end - sizeOf(code);
    }

    private int errorOfCut(int size) {
        if (size < 1 || size > MOST_CUT) {
            return INVALID_ARGUMENT;
        }
        return size > now.longestCut() ? NOT_POSSIBLE : NO_ERROR;
    }

    private int cutBy(int how) {
        int code = choice(now, how);
        if (code == NOT_POSSIBLE) {
            return NOT_POSSIBLE;
        }
        record();
        return now.sew(code);
    }

    /** The cuts are tried in the document's order, so that the first of several equal ones stays. */
    private int choice(Game game, int how) {
        leadsByCuts.fitTo(game);
        int own = game.endOfCoat(game.onTurn());
        int other = game.endOfCoat(1 - game.onTurn());
        int chosen = NOT_POSSIBLE;
        int most = UNTOLD;
        int longest = game.longestCut();
        for (int side = 0; side < 2; side++) {
            for (int size = 1; size <= longest; size++) {
                int code = codeOf(size, side == 0);
                int value = how == BY_GREED ? game.worthOfCut(code)
                    : goThrough(leadsByCuts, game.first, game.end, own, other, code, 0);
                if (value > most) {
                    most = value;
                    chosen = code;
                }
            }
        }
        return chosen;
    }

    // ---- leads

    private int leadTold(Game game) {
        leadsByRows.fitTo(game);
        int own = game.endOfCoat(game.onTurn());
        int other = game.endOfCoat(1 - game.onTurn());
        if (leadsByRows.told(game.first, game.end, own, other) == UNTOLD) {
            tellRows(leadsByRows, game.first, game.end);
        }
        return leadsByRows.told(game.first, game.end, own, other);
    }

    private static void tellRows(Leads leads, int first, int end) {
        int longest = at(leads.settings, LONGEST);
        for (int row = 1; row <= end - first; row++) {
            for (int from = first; from + row <= end; from++) {
                for (int size = 1; size <= longest && size <= row; size++) {
                    raiseRow(leads, from, from + row, codeOf(size, true));
                    raiseRow(leads, from, from + row, codeOf(size, false));
                }
            }
        }
    }

    /** Raises the leads of a row, whatever both coats end in, to what one cut comes to. */
    private static void raiseRow(Leads leads, int first, int end, int code) {
        int size = sizeOf(code);
        int start = pieceStart(first, end, code);
        int begins = at(leads.colours, start);
        int ends = at(leads.colours, start + size - 1);
        int plain = worthOf(size, traitsOf(leads.colours, start, size, NO_COLOUR), leads.settings);
        int matched = worthOf(size, traitsOf(leads.colours, start, size, begins), leads.settings);
        for (int other = 0; other < COAT_ENDS; other++) {
            int rest = leads.told(restStart(first, code), restEnd(end, code), other, ends);
            for (int own = 0; own < COAT_ENDS; own++) {
                int lead = (own == begins ? matched : plain) - rest;
                if (lead > leads.told(first, end, own, other)) {
                    leads.keep(first, end, own, other, lead);
                }
            }
        }
    }

    private int leadGoneInto(Game game) {
        leadsByCuts.fitTo(game);
        int own = game.endOfCoat(game.onTurn());
        int other = game.endOfCoat(1 - game.onTurn());
        return goInto(leadsByCuts, game.first, game.end, own, other, 0);
    }

    private int leadOfCut(Game game, int code) {
        leadsByCuts.fitTo(game);
        int own = game.endOfCoat(game.onTurn());
        int other = game.endOfCoat(1 - game.onTurn());
        return goThrough(leadsByCuts, game.first, game.end, own, other, code, 0);
    }

    /** Each cut takes a stripe at least, so that the depth stays within the stripes. */
    private static int goInto(Leads leads, int first, int end, int own, int other, int depth) {
        if (first >= end || depth > MOST_STRIPES) {
            return 0;
        }
        int most = leads.told(first, end, own, other);
        if (most != UNTOLD) {
            return most;
        }
        int longest = Math.min(at(leads.settings, LONGEST), end - first);
        for (int size = 1; size <= longest; size++) {
            most = Math.max(most, goThrough(leads, first, end, own, other, codeOf(size, true), depth));
            most = Math.max(most, goThrough(leads, first, end, own, other, codeOf(size, false), depth));
        }
        leads.keep(first, end, own, other, most);
        return most;
    }

    private static int goThrough(Leads leads, int first, int end, int own, int other, int code, int depth) {
        int size = sizeOf(code);
        int start = pieceStart(first, end, code);
        int gained = worthOf(size, traitsOf(leads.colours, start, size, own), leads.settings);
        int ends = at(leads.colours, start + size - 1);
        return gained - goInto(leads, restStart(first, code), restEnd(end, code), other, ends, depth + 1);
    }

    // ---- what a piece is worth

    private static int traitsOf(int[] colours, int start, int size, int coatEnd) {
        int traits = at(colours, start) == coatEnd ? IS_MATCH : 0;
        return size >= 2 && isFold(colours, start, size) ? traits | IS_FOLD : traits;
    }

    private static int worthOf(int size, int traits, int[] settings) {
        int fold = (traits & IS_FOLD) != 0 ? at(settings, FOLD) : 0;
        int match = (traits & IS_MATCH) != 0 ? at(settings, MATCH) : 0;
        return size + fold + match;
    }

    private static boolean isFold(int[] colours, int start, int size) {
        for (int i = 0; i < size / 2; i++) {
            if (at(colours, start + i) != at(colours, start + size - 1 - i)) {
                return false;
            }
        }
        return true;
    }

    // ---- the pad

    /** Answers 0 outside the pad, a sign that append() never takes. */
    private char signAt(int position) {
        return position >= 0 && position < signs && position < pad.length ? pad[position] : 0;
    }

    private int digitAt(int position) {
        char sign = signAt(position);
        return sign >= '0' && sign <= '9' ? sign - '0' : NOT_FOUND;
    }

    private static boolean isSide(char sign) {
        return sign == 'l' || sign == 'r';
    }

    private int lettersAhead() {
        int letters = 0;
        while (letters < MOST_STRIPES && signAt(letters) >= 'a' && signAt(letters) <= 'f') {
            letters++;
        }
        return letters;
    }

    private int faultAsBolt() {
        int letters = lettersAhead();
        if (letters >= 1 && letters <= MOST_PATTERN && signAt(letters) == '*') {
            return faultBehindStar(letters);
        }
        return letters == 0 || letters < signs ? letters : NOT_FOUND;
    }

    /** A position at which something is due, and the pad has ended, is the pad's length too. */
    private int faultBehindStar(int letters) {
        int position = letters + 1;
        int digits = digitsOfNumber(position);
        if (digits == 0) {
            return position;
        }
        position += digits;
        if (position >= signs) {
            return NOT_FOUND;
        }
        if (signAt(position) != '+') {
            return position;
        }
        position++;
        int phase = digitAt(position);
        if (phase == NOT_FOUND || phase >= letters) {
            return position;
        }
        position++;
        return position < signs ? position : NOT_FOUND;
    }

    /** How many signs from a position on are a number 1 to 20, or its beginning. */
    private int digitsOfNumber(int position) {
        int high = digitAt(position);
        if (high == NOT_FOUND || high == 0) {
            return 0;
        }
        int low = digitAt(position + 1);
        return low != NOT_FOUND && 10 * high + low <= MOST_STRIPES ? 2 : 1;
    }

    private int faultAsCuts() {
        boolean digitDue = false;
        for (int i = 0; i < signs; i++) {
            if (digitDue) {
                int size = digitAt(i);
                if (size < 1 || size > MOST_CUT) {
                    return i;
                }
                digitDue = false;
            } else if (isSide(signAt(i))) {
                // no pad is longer than its limit, so none has a digit behind its last place
                if (i + 1 >= MOST_SIGNS) {
                    return i;
                }
                digitDue = true;
            } else if (signAt(i) != 'b' && signAt(i) != 'g') {
                return i;
            }
        }
        return digitDue || signs == 0 ? signs : NOT_FOUND;
    }

    private void layPattern(int letters) {
        int position = letters + 1;
        int digits = digitsOfNumber(position);
        int stripes = digitAt(position);
        if (digits == 2) {
            stripes = 10 * stripes + digitAt(position + 1);
        }
        int phase = signAt(position + digits) == '+' ? digitAt(position + digits + 1) : 0;
        layLetters(letters, stripes, phase);
    }

    private void layLetters(int letters, int stripes, int phase) {
        if (letters <= 0) {
            return;
        }
        now.stripes = stripes;
        for (int i = 0; i < stripes && i < MOST_STRIPES; i++) {
            put(now.colours, i, signAt((i + phase) % letters) - 'a');
        }
    }

    private int codeOnPad(int position) {
        char sign = signAt(position);
        if (!isSide(sign)) {
            return choice(now, sign == 'g' ? BY_GREED : BY_LEAD);
        }
        int size = digitAt(position + 1);
        if (size < 1 || size > now.longestCut()) {
            return NOT_POSSIBLE;
        }
        return codeOf(size, sign == 'l');
    }

    // ---- guards

    private static boolean isNoTailor(int tailor) {
        return tailor < 0 || tailor > 1;
    }

    private static int at(int[] row, int index) {
        return index >= 0 && index < row.length ? row[index] : 0;
    }

    private static void put(int[] row, int index, int value) {
        if (index >= 0 && index < row.length) {
            row[index] = value;
        }
    }

    /** All that history and snapshot hold. The cuts lie in their order: those of the tailor 0 are the even ones. */
    private static final class Game {
        final int[] colours = new int[MOST_STRIPES];
        final int[] settings = new int[SETTINGS];
        final int[] pieceFirst = new int[MOST_STRIPES];
        final int[] pieceSize = new int[MOST_STRIPES];
        final int[] pieceWorth = new int[MOST_STRIPES];
        final int[] pieceTraits = new int[MOST_STRIPES];
        int stripes = FIRST_BOLT.length();
        int first = 0;
        int end = FIRST_BOLT.length();
        int cuts = 0;

        Game() {
            for (int i = 0; i < SETTINGS; i++) {
                put(settings, i, at(FIRST_VALUES, i));
            }
            for (int i = 0; i < FIRST_BOLT.length(); i++) {
                put(colours, i, FIRST_BOLT.charAt(i) - 'a');
            }
        }

        void copyFrom(Game other) {
            System.arraycopy(other.colours, 0, colours, 0, MOST_STRIPES);
            System.arraycopy(other.settings, 0, settings, 0, SETTINGS);
            System.arraycopy(other.pieceFirst, 0, pieceFirst, 0, MOST_STRIPES);
            System.arraycopy(other.pieceSize, 0, pieceSize, 0, MOST_STRIPES);
            System.arraycopy(other.pieceWorth, 0, pieceWorth, 0, MOST_STRIPES);
            System.arraycopy(other.pieceTraits, 0, pieceTraits, 0, MOST_STRIPES);
            stripes = other.stripes;
            first = other.first;
            end = other.end;
            cuts = other.cuts;
        }

        void begin() {
            first = 0;
            end = stripes;
            cuts = 0;
        }

        int remaining() {
            return end - first;
        }

        boolean isOver() {
            return first >= end;
        }

        int onTurn() {
            return cuts & 1;
        }

        int longestCut() {
            return Math.min(at(settings, LONGEST), remaining());
        }

        int worthOfCut(int code) {
            int size = sizeOf(code);
            int start = pieceStart(first, end, code);
            return worthOf(size, traitsOf(colours, start, size, endOfCoat(onTurn())), settings);
        }

        int sew(int code) {
            int size = sizeOf(code);
            int start = pieceStart(first, end, code);
            int traits = traitsOf(colours, start, size, endOfCoat(onTurn()));
            int gained = worthOf(size, traits, settings);
            put(pieceFirst, cuts, start);
            put(pieceSize, cuts, size);
            put(pieceWorth, cuts, gained);
            put(pieceTraits, cuts, isFromLeft(code) ? traits | IS_FROM_LEFT : traits);
            cuts++;
            first = restStart(first, code);
            end = restEnd(end, code);
            return gained;
        }

        int turnRound() {
            int changed = 0;
            for (int i = first, j = end - 1; i < j; i++, j--) {
                int colour = at(colours, i);
                if (colour != at(colours, j)) {
                    changed += 2;
                }
                put(colours, i, at(colours, j));
                put(colours, j, colour);
            }
            return changed;
        }

        int piecesOf(int tailor) {
            return (cuts + 1 - tailor) / 2;
        }

        /** No stripe that was cut ever changes its colour, so that the bolt still tells a piece's end. */
        int endOfCoat(int tailor) {
            int pieces = piecesOf(tailor);
            if (pieces <= 0) {
                return NO_COLOUR;
            }
            int latest = 2 * (pieces - 1) + tailor;
            return at(colours, at(pieceFirst, latest) + at(pieceSize, latest) - 1);
        }

        int sumOfCoat(int[] numbers, int tailor) {
            int sum = 0;
            for (int i = tailor; i < cuts; i += 2) {
                sum += at(numbers, i);
            }
            return sum;
        }

        int piecesWith(int trait, int tailor) {
            int pieces = 0;
            for (int i = tailor; i < cuts; i += 2) {
                if ((at(pieceTraits, i) & trait) != 0) {
                    pieces++;
                }
            }
            return pieces;
        }

        int colourChanges() {
            int changes = 0;
            for (int i = first + 1; i < end; i++) {
                if (at(colours, i) != at(colours, i - 1)) {
                    changes++;
                }
            }
            return changes;
        }

        int stripesLeftOf(int colour) {
            int stripesLeft = 0;
            for (int i = first; i < end; i++) {
                if (at(colours, i) == colour) {
                    stripesLeft++;
                }
            }
            return stripesLeft;
        }

        int coloursLeft() {
            int different = 0;
            for (int colour = 0; colour < COLOURS; colour++) {
                if (stripesLeftOf(colour) > 0) {
                    different++;
                }
            }
            return different;
        }

        int longestFold() {
            for (int size = remaining(); size > 0; size--) {
                for (int start = first; start + size <= end; start++) {
                    if (isFold(colours, start, size)) {
                        return size;
                    }
                }
            }
            return 0;
        }
    }

    /** Best leads, by the row that is left and what both coats end in, for one bolt and one set of settings. */
    private static final class Leads {
        private static final int ROWS = MOST_STRIPES * (MOST_STRIPES + 1) / 2;

        final int[] colours = new int[MOST_STRIPES];
        final int[] settings = new int[SETTINGS];
        final int[] kept = new int[ROWS * COAT_ENDS * COAT_ENDS];
        int stripes;

        /** Looked at ahead of each use, so that no change of a game has to think of what is kept. */
        void fitTo(Game game) {
            if (isFor(game)) {
                return;
            }
            System.arraycopy(game.colours, 0, colours, 0, MOST_STRIPES);
            System.arraycopy(game.settings, 0, settings, 0, SETTINGS);
            stripes = game.stripes;
            Arrays.fill(kept, UNTOLD);
        }

        boolean isFor(Game game) {
            boolean same = stripes == game.stripes;
            for (int i = 0; i < SETTINGS; i++) {
                same = same && at(settings, i) == at(game.settings, i);
            }
            for (int i = 0; i < stripes; i++) {
                same = same && at(colours, i) == at(game.colours, i);
            }
            return same;
        }

        int told(int first, int end, int own, int other) {
            return first >= end ? 0 : at(kept, place(first, end, own, other));
        }

        void keep(int first, int end, int own, int other, int lead) {
            put(kept, place(first, end, own, other), lead);
        }

        private static int place(int first, int end, int own, int other) {
            return ((end * (end - 1) / 2 + first) * COAT_ENDS + own) * COAT_ENDS + other;
        }
    }
}
