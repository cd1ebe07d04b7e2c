import java.util.ArrayList;
import java.util.HashMap;
import java.util.List;
import java.util.Map;

/** Runs of calls, drawn by a fixed seed, on BoltTailors and on a slow model that shares no code with it. */
public final class ModelTest {
    private static int wrong = 0;
    private static long seed = 20261119L;

    private static int draw(int below) {
        seed = seed * 6364136223846793005L + 1442695040888963407L;
        return (int) ((seed >>> 33) % below);
    }

    public static void main(String[] args) {
        for (int run = 0; run < 400 && wrong < 20; run++) {
            runOnce(run);
        }
        for (int i = 0; i < 4000 && wrong < 20; i++) {
            compareFaults(i);
        }
        System.out.println(wrong == 0 ? "model: all answers agree" : "model: " + wrong + " answers differ");
        if (wrong != 0) {
            System.exit(1);
        }
    }

    private static void due(int run, int step, String call, Object got, Object want) {
        if (!got.equals(want)) {
            wrong++;
            System.out.println("run " + run + ", step " + step + ": " + call + " answered " + got + ", due is " + want);
        }
    }

    private static void runOnce(int run) {
        BoltTailors x = new BoltTailors();
        Model m = new Model();
        int calls = 0;
        while (calls < 440) {
            calls += change(run, calls, x, m);
            for (int i = 0; i < 6; i++) {
                calls++;
                look(run, calls, x, m);
            }
        }
    }

    private static int type(int run, int step, BoltTailors x, Model m, String text) {
        for (int i = 0; i < text.length(); i++) {
            int code = text.charAt(i);
            due(run, step, "append(" + code + ")", x.append(code), m.append(code));
        }
        return text.length();
    }

    private static int change(int run, int step, BoltTailors x, Model m) {
        switch (draw(16)) {
            case 0: {
                int typed = type(run, step, x, m, boltText());
                due(run, step, "load", x.load(), m.load());
                return typed + 1;
            }
            case 1: {
                int typed = type(run, step, x, m, cutsText(draw(9)));
                due(run, step, "play", x.play(), m.play());
                return typed + 1;
            }
            case 2:
                return type(run, step, x, m, draw(2) == 0 ? boltText() : cutsText(draw(6)));
            case 3: {
                int code = draw(3) == 0 ? draw(140) - 5 : "abcdef*+0123lrbg".charAt(draw(16));
                due(run, step, "append(" + code + ")", x.append(code), m.append(code));
                return 1;
            }
            case 4:
                due(run, step, "clear", x.clear(), m.clear());
                return 1;
            case 5: {
                int what = draw(20) == 0 ? draw(7) - 2 : draw(3);
                int value = draw(12) - 1;
                due(run, step, "set(" + what + ", " + value + ")", x.set(what, value), m.set(what, value));
                return 1;
            }
            case 6:
                due(run, step, "mirror", x.mirror(), m.mirror());
                return 1;
            case 7:
                due(run, step, "again", x.again(), m.again());
                return 1;
            case 8:
                due(run, step, "undo", x.undo(), m.undo());
                return 1;
            case 9:
                due(run, step, "save", x.save(), m.save());
                return 1;
            case 10:
                due(run, step, "restore", x.restore(), m.restore());
                return 1;
            case 11:
                due(run, step, "best", x.best(), m.cutBy(0));
                return 1;
            case 12:
                due(run, step, "greedy", x.greedy(), m.cutBy(1));
                return 1;
            default: {
                int size = draw(9) == 0 ? draw(9) - 1 : 1 + draw(4);
                boolean left = draw(2) == 0;
                due(run, step, "cut(" + size + ", " + left + ")", x.cut(size, left), m.cut(size, left));
                return 1;
            }
        }
    }

    private static String boltText() {
        StringBuilder text = new StringBuilder();
        int colours = 1 + draw(6);
        boolean pattern = draw(2) == 0;
        int letters = pattern ? 1 + draw(6) : 1 + draw(20);
        for (int i = 0; i < letters; i++) {
            text.append((char) ('a' + draw(colours)));
        }
        if (pattern) {
            text.append('*').append(1 + draw(20));
            if (draw(2) == 0) {
                text.append('+').append(draw(letters));
            }
        }
        return spoilt(text);
    }

    private static String cutsText(int cuts) {
        StringBuilder text = new StringBuilder();
        for (int i = 0; i < cuts; i++) {
            char sign = "lrlrbg".charAt(draw(6));
            text.append(sign);
            if (sign == 'l' || sign == 'r') {
                text.append(1 + draw(draw(4) == 0 ? 5 : 3));
            }
        }
        return spoilt(text);
    }

    private static String spoilt(StringBuilder text) {
        if (draw(8) == 0 && text.length() > 0) {
            text.setCharAt(draw(text.length()), "abcg*+0129lr~".charAt(draw(13)));
        }
        if (draw(12) == 0) {
            text.append("abg*+01l5".charAt(draw(9)));
        }
        return text.toString();
    }

    private static void look(int run, int step, BoltTailors x, Model m) {
        int a = draw(12) == 0 ? draw(5) - 2 : draw(2);
        int b = draw(12) == 0 ? draw(12) - 4 : draw(6);
        int c = draw(12) == 0 ? draw(9) - 3 : draw(4);
        boolean left = draw(2) == 0;
        switch (draw(14)) {
            case 0:
                due(run, step, "fault(" + a + ")", x.fault(a), m.fault(a));
                break;
            case 1:
                due(run, step, "stripe", x.stripe(3 * b + c), m.stripe(3 * b + c));
                break;
            case 2:
            case 3:
                due(run, step, "coat(" + a + ", " + b + ")", x.coat(a, b), m.coat(a, b));
                break;
            case 4:
                due(run, step, "piece(" + a + ", " + b + ", " + c + ")", x.piece(a, b, c), m.piece(a, b, c));
                break;
            case 5:
            case 6:
            case 7: {
                int what = draw(16) - 1;
                due(run, step, "count(" + what + ")", x.count(what), m.count(what));
                break;
            }
            case 8:
                due(run, step, "left(" + b + ")", x.left(b), m.left(b));
                break;
            case 9:
                due(run, step, "worth(" + b + ", " + left + ")", x.worth(b, left), m.worth(b, left));
                break;
            case 10:
                due(run, step, "lead(" + a + ")", x.lead(a), m.lead(a));
                break;
            case 11:
                due(run, step, "leadWith(" + b + ", " + left + ")", x.leadWith(b, left), m.leadWith(b, left));
                due(run, step, "bestCut", x.bestCut(), m.bestCut());
                break;
            case 12:
                due(run, step, "ended(" + a + ", " + c % 2 + ", " + b % 3 + ")", x.ended(a, c % 2, b % 3), m.ended(a, c % 2, b % 3));
                break;
            default:
                due(run, step, "rate", x.rate(), m.rate());
        }
    }

    private static void compareFaults(int run) {
        String text = run % 2 == 0 ? boltText() : cutsText(1 + draw(40));
        BoltTailors x = new BoltTailors();
        Model m = new Model();
        type(run, 0, x, m, text);
        due(run, 0, "fault(0) of " + text, x.fault(0), m.fault(0));
        due(run, 0, "fault(1) of " + text, x.fault(1), m.fault(1));
    }

    /** One cut: the piece's letters, where it began, what it was worth, whether it matched, folded, came from the left. */
    private record Piece(String letters, int start, int worth, boolean match, boolean fold, boolean left) { }

    private record State(String bolt, int from, int to, List<Piece> pieces, List<Integer> settings) { }

    private static final class Model {
        private State now = new State("abcabcabcabc", 0, 12, List.of(), List.of(4, 3, 2));
        private final List<State> past = new ArrayList<>();
        private State kept = null;
        private String pad = "";
        private final Map<String, Integer> leads = new HashMap<>();

        private String row() {
            return now.bolt.substring(now.from, now.to);
        }

        private void change(State next) {
            past.add(now);
            if (past.size() > 4) {
                past.remove(0);
            }
            now = next;
        }

        private static String coatEnd(State s, int tailor) {
            String end = "";
            for (int i = tailor; i < s.pieces.size(); i += 2) {
                String letters = s.pieces.get(i).letters;
                end = letters.substring(letters.length() - 1);
            }
            return end;
        }

        private static boolean fold(String text) {
            return text.length() > 1 && new StringBuilder(text).reverse().toString().equals(text);
        }

        private static int worthOf(String piece, String coatEnd, List<Integer> settings) {
            boolean match = !coatEnd.isEmpty() && piece.startsWith(coatEnd);
            return piece.length() + (fold(piece) ? settings.get(1) : 0) + (match ? settings.get(2) : 0);
        }

        private static String taken(String row, int size, boolean left) {
            return left ? row.substring(0, size) : row.substring(row.length() - size);
        }

        private static String rest(String row, int size, boolean left) {
            return left ? row.substring(size) : row.substring(0, row.length() - size);
        }

        private int leadOf(String row, String own, String other, List<Integer> settings) {
            if (row.isEmpty()) {
                return 0;
            }
            String key = row + "/" + own + "/" + other + "/" + settings;
            Integer known = leads.get(key);
            if (known != null) {
                return known;
            }
            int most = -100000;
            for (int size = 1; size <= settings.get(0) && size <= row.length(); size++) {
                for (boolean left : new boolean[] {true, false}) {
                    most = Math.max(most, leadBy(row, size, left, own, other, settings));
                }
            }
            leads.put(key, most);
            return most;
        }

        private int leadBy(String row, int size, boolean left, String own, String other, List<Integer> settings) {
            String piece = taken(row, size, left);
            String end = piece.substring(piece.length() - 1);
            return worthOf(piece, own, settings) - leadOf(rest(row, size, left), other, end, settings);
        }

        private static State afterCut(State s, int size, boolean left) {
            String row = s.bolt.substring(s.from, s.to);
            String piece = taken(row, size, left);
            String end = coatEnd(s, s.pieces.size() % 2);
            List<Piece> pieces = new ArrayList<>(s.pieces);
            pieces.add(new Piece(piece, left ? s.from : s.to - size, worthOf(piece, end, s.settings),
                !end.isEmpty() && piece.startsWith(end), fold(piece), left));
            return new State(s.bolt, left ? s.from + size : s.from, left ? s.to : s.to - size, pieces, s.settings);
        }

        private int code(State s, int how) {
            String row = s.bolt.substring(s.from, s.to);
            String own = coatEnd(s, s.pieces.size() % 2);
            String other = coatEnd(s, 1 - s.pieces.size() % 2);
            int most = -100000;
            int code = -2;
            for (boolean left : new boolean[] {true, false}) {
                for (int size = 1; size <= Math.min(s.settings.get(0), row.length()); size++) {
                    int value = how == 1 ? worthOf(taken(row, size, left), own, s.settings)
                        : leadBy(row, size, left, own, other, s.settings);
                    if (value > most) {
                        most = value;
                        code = left ? size : size + 10;
                    }
                }
            }
            return code;
        }

        private int error(int size) {
            if (size < 1 || size > 5) {
                return -1;
            }
            return row().isEmpty() || size > row().length() || size > now.settings.get(0) ? -2 : 0;
        }

        int cut(int size, boolean left) {
            if (error(size) != 0) {
                return error(size);
            }
            change(afterCut(now, size, left));
            return now.pieces.get(now.pieces.size() - 1).worth;
        }

        int cutBy(int how) {
            int code = code(now, how);
            return code == -2 ? -2 : cut(code % 10, code < 10);
        }

        int again() {
            change(new State(now.bolt, 0, now.bolt.length(), List.of(), now.settings));
            return now.bolt.length();
        }

        int mirror() {
            String turned = new StringBuilder(row()).reverse().toString();
            int other = 0;
            for (int i = 0; i < turned.length(); i++) {
                other += turned.charAt(i) != row().charAt(i) ? 1 : 0;
            }
            String bolt = now.bolt.substring(0, now.from) + turned + now.bolt.substring(now.to);
            change(new State(bolt, now.from, now.to, now.pieces, now.settings));
            return other;
        }

        int set(int what, int value) {
            if (what < 0 || what > 2 || value < (what == 0 ? 1 : 0) || value > (what == 0 ? 5 : 9)) {
                return -1;
            }
            int before = now.settings.get(what);
            List<Integer> settings = new ArrayList<>(now.settings);
            settings.set(what, value);
            change(new State(now.bolt, now.from, now.to, now.pieces, settings));
            return before;
        }

        int append(int code) {
            if (code < 33 || code > 126) {
                return -1;
            }
            if (pad.length() == 60) {
                return -3;
            }
            pad += (char) code;
            return pad.length();
        }

        int clear() {
            int length = pad.length();
            pad = "";
            return length;
        }

        private static boolean complete(String text, int way) {
            if (text.length() > 60) {
                return false;
            }
            if (way == 1) {
                return text.matches("([lr][1-5]|[bg])+");
            }
            if (text.matches("[a-f]{1,20}")) {
                return true;
            }
            if (!text.matches("[a-f]{1,6}\\*([1-9]|1[0-9]|20)(\\+[0-5])?")) {
                return false;
            }
            int plus = text.indexOf('+');
            return plus < 0 || text.charAt(plus + 1) - '0' < text.indexOf('*');
        }

        /** Whatever can become complete becomes so by one of these endings. */
        private static boolean begins(String text, int way) {
            for (String ending : new String[] {"", "1", "0", "a"}) {
                if (complete(text + ending, way)) {
                    return true;
                }
            }
            return false;
        }

        int fault(int way) {
            if (way < 0 || way > 1) {
                return -1;
            }
            for (int i = 0; i < pad.length(); i++) {
                if (!begins(pad.substring(0, i + 1), way)) {
                    return i;
                }
            }
            return complete(pad, way) ? -4 : pad.length();
        }

        int load() {
            if (fault(0) != -4) {
                return -2;
            }
            String bolt = pad;
            int star = pad.indexOf('*');
            if (star > 0) {
                int plus = pad.indexOf('+');
                int stripes = Integer.parseInt(pad.substring(star + 1, plus < 0 ? pad.length() : plus));
                int phase = plus < 0 ? 0 : Integer.parseInt(pad.substring(plus + 1));
                bolt = pad.substring(0, star).repeat(30).substring(phase, phase + stripes);
            }
            change(new State(bolt, 0, bolt.length(), List.of(), now.settings));
            pad = "";
            return bolt.length();
        }

        int play() {
            if (fault(1) != -4) {
                return -2;
            }
            State s = now;
            int made = 0;
            String text = pad;
            while (!text.isEmpty()) {
                char sign = text.charAt(0);
                boolean side = sign == 'l' || sign == 'r';
                int code = side ? (sign == 'l' ? 0 : 10) + text.charAt(1) - '0' : code(s, sign == 'b' ? 0 : 1);
                text = text.substring(side ? 2 : 1);
                if (code == -2 || code % 10 > s.to - s.from || code % 10 > s.settings.get(0)) {
                    break;
                }
                s = afterCut(s, code % 10, code < 10);
                made++;
            }
            change(s);
            pad = "";
            return made;
        }

        int stripe(int stripe) {
            return stripe < 0 || stripe >= now.bolt.length() ? -1 : now.bolt.charAt(stripe) - 'a';
        }

        private List<Piece> piecesOf(State s, int tailor) {
            List<Piece> own = new ArrayList<>();
            for (int i = tailor; i < s.pieces.size(); i += 2) {
                own.add(s.pieces.get(i));
            }
            return own;
        }

        int coat(int tailor, int what) {
            if (tailor < 0 || tailor > 1 || what < 0 || what > 5) {
                return -1;
            }
            return coatOf(now, tailor, what);
        }

        private int coatOf(State s, int tailor, int what) {
            String end = coatEnd(s, tailor);
            if (what == 3) {
                return end.isEmpty() ? -4 : end.charAt(0) - 'a';
            }
            int sum = 0;
            for (Piece piece : piecesOf(s, tailor)) {
                int[] adds = {piece.worth, 1, piece.letters.length(), 0, piece.match ? 1 : 0, piece.fold ? 1 : 0};
                sum += adds[what];
            }
            return sum;
        }

        int piece(int tailor, int number, int what) {
            if (tailor < 0 || tailor > 1 || number < 0 || what < 0 || what > 3) {
                return -1;
            }
            if (number >= piecesOf(now, tailor).size()) {
                return -4;
            }
            Piece piece = piecesOf(now, tailor).get(number);
            int[] numbers = {piece.start, piece.letters.length(), piece.worth, piece.left ? 1 : 0};
            return numbers[what];
        }

        int count(int what) {
            if (what < 0 || what > 13) {
                return -1;
            }
            String row = row();
            boolean over = row.isEmpty();
            int changes = 0;
            int longest = over ? 0 : 1;
            for (int i = 0; i < row.length(); i++) {
                changes += i > 0 && row.charAt(i) != row.charAt(i - 1) ? 1 : 0;
                for (int j = i + 2; j <= row.length(); j++) {
                    longest = fold(row.substring(i, j)) ? Math.max(longest, j - i) : longest;
                }
            }
            int[] numbers = {now.bolt.length(), row.length(), over ? -4 : now.from, over ? -4 : now.to - 1,
                over ? -4 : now.pieces.size() % 2, now.pieces.size(), changes, (int) row.chars().distinct().count(),
                longest, now.settings.get(0), now.settings.get(1), now.settings.get(2), pad.length(), past.size()};
            return numbers[what];
        }

        int left(int colour) {
            return colour < 0 || colour > 5 ? -1 : (int) row().chars().filter(c -> c == 'a' + colour).count();
        }

        int worth(int size, boolean left) {
            return error(size) != 0 ? error(size)
                : worthOf(taken(row(), size, left), coatEnd(now, now.pieces.size() % 2), now.settings);
        }

        int lead(int way) {
            if (way < 0 || way > 1) {
                return -1;
            }
            int turn = now.pieces.size() % 2;
            return 1000 + leadOf(row(), coatEnd(now, turn), coatEnd(now, 1 - turn), now.settings);
        }

        int leadWith(int size, boolean left) {
            int turn = now.pieces.size() % 2;
            return error(size) != 0 ? error(size)
                : 1000 + leadBy(row(), size, left, coatEnd(now, turn), coatEnd(now, 1 - turn), now.settings);
        }

        int bestCut() {
            return code(now, 0);
        }

        int ended(int zero, int one, int what) {
            if (zero < 0 || zero > 1 || one < 0 || one > 1 || what < 0 || what > 2) {
                return -1;
            }
            State s = now;
            while (s.from < s.to) {
                int code = code(s, s.pieces.size() % 2 == 0 ? zero : one);
                s = afterCut(s, code % 10, code < 10);
            }
            return what == 2 ? s.pieces.size() - now.pieces.size() : coatOf(s, what, 0);
        }

        double rate() {
            int stripes = coat(0, 2) + coat(1, 2);
            return stripes == 0 ? 0.0 : (coat(0, 0) + coat(1, 0)) / (double) stripes;
        }

        int undo() {
            if (past.isEmpty()) {
                return -2;
            }
            now = past.remove(past.size() - 1);
            return past.size();
        }

        int save() {
            kept = now;
            return now.to - now.from;
        }

        int restore() {
            if (kept == null) {
                return -2;
            }
            change(kept);
            return now.to - now.from;
        }
    }
}
