/** Each promise by itself: ordinary calls, the edges that the document names, and wrong arguments. */
public final class PromiseTest extends Checks {
    public static void main(String[] args) {
        newObject();
        cut();
        best();
        greedy();
        again();
        mirror();
        set();
        append();
        clear();
        fault();
        load();
        play();
        stripe();
        coat();
        piece();
        count();
        left();
        worth();
        lead();
        leadWith();
        bestCut();
        ended();
        rate();
        undo();
        save();
        restore();
        end("promises");
    }

    // ---- the promises

    private static void newObject() {
        about("promise 1");
        BoltTailors x = new BoltTailors();
        same("bolt", bolt(x), "abcabcabcabc");
        int[] counts = {12, 12, 0, 11, 0, 0, 11, 3, 1, 4, 3, 2, 0, 0};
        for (int what = 0; what < counts.length; what++) {
            due("count(" + what + ")", x.count(what), counts[what]);
        }
        for (int tailor = 0; tailor < 2; tailor++) {
            for (int what = 0; what <= 5; what++) {
                due("coat(" + tailor + ", " + what + ")", x.coat(tailor, what), what == 3 ? NONE : 0);
            }
        }
        due("undo()", x.undo(), NOT_POSSIBLE);
        due("restore()", x.restore(), NOT_POSSIBLE);
        BoltTailors other = new BoltTailors();
        x.cut(3, LEFT);
        due("count(1) of another object", other.count(1), 12);
    }

    private static void cut() {
        about("promise 2");
        BoltTailors x = new BoltTailors();
        String before = all(x);
        due("cut(0, left)", x.cut(0, LEFT), INVALID);
        due("cut(6, right)", x.cut(6, RIGHT), INVALID);
        due("cut(-1, left)", x.cut(-1, LEFT), INVALID);
        due("cut(MAX, left)", x.cut(Integer.MAX_VALUE, LEFT), INVALID);
        due("cut(MIN, right)", x.cut(Integer.MIN_VALUE, RIGHT), INVALID);
        due("cut(5, left), LONGEST 4", x.cut(5, LEFT), NOT_POSSIBLE);
        same("state after errors", all(x), before);
        x.set(LONGEST, 5);
        due("cut(5, left)", x.cut(5, LEFT), 5);
        due("count(4)", x.count(4), 1);
        due("count(2)", x.count(2), 5);
        due("cut(4, right)", x.cut(4, RIGHT), 4);
        due("count(3)", x.count(3), 7);
        due("count(4)", x.count(4), 0);
        due("cut(4, left), 3 left", x.cut(4, LEFT), NOT_POSSIBLE);
        due("cut(3, left)", x.cut(3, LEFT), 3);
        due("cut(1, left), over", x.cut(1, LEFT), NOT_POSSIBLE);
        due("cut(6, left), over", x.cut(6, LEFT), INVALID);

        due("a fold of two", on("aab").cut(2, LEFT), 5);
        due("a fold of three", on("aba").cut(3, LEFT), 6);
        due("a fold of four", on("cabba").cut(4, RIGHT), 7);
        due("no fold of four", on("abca").cut(4, LEFT), 4);
        due("one stripe is no fold", on("aba").cut(1, LEFT), 1);
        due("a fold at FOLD 0", on("aba", 4, 0, 2).cut(3, LEFT), 3);
        due("a fold of five", on("abcba", 5, 9, 2).cut(5, RIGHT), 14);

        x = on("abab");
        due("the first piece", x.cut(1, LEFT), 1);
        due("the other's first piece", x.cut(1, LEFT), 1);
        due("a match", x.cut(1, LEFT), 3);
        due("the other's match", x.cut(1, LEFT), 3);

        x = on("aab");
        x.cut(1, LEFT);
        due("no match with the other's coat", x.cut(1, LEFT), 1);

        x = on("acba");
        x.cut(1, LEFT);
        x.cut(1, LEFT);
        due("only the piece's first stripe matches", x.cut(2, RIGHT), 2);
        x = on("acab");
        x.cut(1, LEFT);
        x.cut(1, LEFT);
        due("the leftmost stripe is the first, from the right too", x.cut(2, RIGHT), 4);
        due("coat(0, 3)", x.coat(0, 3), 1);

        x = on("abcac");
        x.cut(2, LEFT);
        x.cut(1, LEFT);
        due("the coat's last stripe counts, not its first", x.cut(1, LEFT), 1);
        x = on("abacb");
        x.cut(1, LEFT);
        x.cut(1, LEFT);
        x.cut(1, LEFT);
        due("no match of b and c", x.cut(1, LEFT), 1);
        x = on("acaaa", 4, 9, 8);
        x.cut(1, LEFT);
        x.cut(1, LEFT);
        due("fold and match", x.cut(3, RIGHT), 20);
        x = on("abcbdb");
        x.cut(2, LEFT);
        x.cut(1, LEFT);
        due("the latest piece at first", x.cut(1, LEFT), 3);
        x.cut(1, LEFT);
        due("the latest piece then", x.cut(1, LEFT), 3);
    }

    private static void best() {
        about("promise 3");
        due("best(), over", emptied().best(), NOT_POSSIBLE);
        BoltTailors x = on("aabb", 3, 3, 2);
        due("best() gives up a fold", x.best(), 3);
        due("its stripes", x.piece(0, 0, 1), 3);
        due("its side", x.piece(0, 0, 3), 1);
        due("count(13)", x.count(13), 4);
        due("count(4)", x.count(4), 1);
        due("best() of the other one", x.best(), 1);
        String before = all(x);
        due("best(), over", x.best(), NOT_POSSIBLE);
        same("state after the error", all(x), before);

        x = on("abaaa", 3, 3, 2);
        due("best() from the right", x.best(), 6);
        due("its side", x.piece(0, 0, 3), 0);
        due("its stripes", x.piece(0, 0, 1), 3);
        x = on("ababa", 2, 3, 2);
        due("best() of one stripe", x.best(), 1);
        due("its side", x.piece(0, 0, 3), 0);
        due("its stripes", x.piece(0, 0, 1), 1);
    }

    private static void greedy() {
        about("promise 4");
        due("greedy(), over", emptied().greedy(), NOT_POSSIBLE);
        BoltTailors x = on("aabb", 3, 3, 2);
        due("greedy() takes the fold", x.greedy(), 5);
        due("its stripes", x.piece(0, 0, 1), 2);
        due("its side, left ahead of right", x.piece(0, 0, 3), 1);
        due("greedy() of the other one", x.greedy(), 5);
        String before = all(x);
        due("greedy(), over", x.greedy(), NOT_POSSIBLE);
        same("state after the error", all(x), before);

        x = on("abaca", 4, 2, 0);
        due("greedy() from the left", x.greedy(), 5);
        due("its stripes", x.piece(0, 0, 1), 3);
        due("its side", x.piece(0, 0, 3), 1);
        x = on("aabcd", 4, 2, 0);
        due("greedy(), shorter ahead of longer", x.greedy(), 4);
        due("its stripes", x.piece(0, 0, 1), 2);
        x = on("dcbaa", 4, 2, 0);
        due("greedy(), left ahead of a shorter right one", x.greedy(), 4);
        due("its stripes", x.piece(0, 0, 1), 4);
        due("its side", x.piece(0, 0, 3), 1);
        x = on("dcbaa", 4, 3, 0);
        due("greedy() from the right", x.greedy(), 5);
        due("its side", x.piece(0, 0, 3), 0);
        x = on("acbda", 1, 3, 2);
        x.cut(1, LEFT);
        x.cut(1, LEFT);
        due("greedy() looks for a match", x.greedy(), 3);
        due("its first stripe", x.piece(0, 1, 0), 4);
    }

    private static void again() {
        about("promise 5");
        BoltTailors x = on("abcde");
        x.cut(1, LEFT);
        x.mirror();
        x.set(MATCH, 7);
        x.cut(2, RIGHT);
        x.cut(1, RIGHT);
        due("again()", x.again(), 5);
        same("bolt, mirrored as it was", bolt(x), "aedcb");
        due("count(1)", x.count(1), 5);
        due("count(2)", x.count(2), 0);
        due("count(3)", x.count(3), 4);
        due("count(4)", x.count(4), 0);
        due("count(5)", x.count(5), 0);
        due("count(11)", x.count(11), 7);
        due("count(13)", x.count(13), 4);
        for (int tailor = 0; tailor < 2; tailor++) {
            due("coat(" + tailor + ", 0)", x.coat(tailor, 0), 0);
            due("coat(" + tailor + ", 1)", x.coat(tailor, 1), 0);
            due("coat(" + tailor + ", 3)", x.coat(tailor, 3), NONE);
        }
        x = emptied();
        due("again(), over", x.again(), 2);
        due("count(1)", x.count(1), 2);
        due("undo()", x.undo(), 2);
        due("count(1) after undo()", x.count(1), 0);
        x = new BoltTailors();
        x.again();
        due("again() is a change, also without a difference", x.count(13), 1);
        x.append('a');
        x.again();
        due("the pad stays", x.count(12), 1);
    }

    private static void mirror() {
        about("promise 6");
        BoltTailors x = new BoltTailors();
        due("mirror()", x.mirror(), 8);
        same("bolt", bolt(x), "cbacbacbacba");
        due("count(13)", x.count(13), 1);
        x = on("abcde");
        x.cut(1, LEFT);
        due("mirror() of bcde", x.mirror(), 4);
        same("whole bolt", bolt(x), "aedcb");
        x.cut(1, RIGHT);
        due("mirror() of edc", x.mirror(), 2);
        same("whole bolt", bolt(x), "acdeb");
        due("coat(0, 3)", x.coat(0, 3), 0);
        due("coat(1, 3)", x.coat(1, 3), 1);
        x.append('a');
        due("undo()", x.undo(), 3);
        same("whole bolt after undo()", bolt(x), "aedcb");
        due("the pad", x.count(12), 1);
        x = on("abcba");
        due("mirror() of a fold", x.mirror(), 0);
        due("it is a change", x.count(13), 2);
        x = emptied();
        due("mirror(), over", x.mirror(), 0);
        due("it is a change", x.count(13), 3);
        same("whole bolt", bolt(x), "ab");
        x = on("acaaa", 2, 3, 2);
        x.cut(1, LEFT);
        leadIs(x, 1003);
        x.mirror();
        leadIs(x, 1001);
        x.undo();
        leadIs(x, 1003);
    }

    private static void set() {
        about("promise 7");
        BoltTailors x = new BoltTailors();
        int[] low = {1, 0, 0};
        int[] high = {5, 9, 9};
        int[] first = {4, 3, 2};
        String before = all(x);
        for (int what = 0; what < 3; what++) {
            due("set(" + what + ", below)", x.set(what, low[what] - 1), INVALID);
            due("set(" + what + ", above)", x.set(what, high[what] + 1), INVALID);
        }
        due("set(-1, 2)", x.set(-1, 2), INVALID);
        due("set(3, 2)", x.set(3, 2), INVALID);
        due("set(3, 0)", x.set(3, 0), INVALID);
        due("set(-1, 0)", x.set(-1, 0), INVALID);
        due("set(MIN, MIN)", x.set(Integer.MIN_VALUE, Integer.MIN_VALUE), INVALID);
        due("set(0, MAX)", x.set(0, Integer.MAX_VALUE), INVALID);
        same("state after errors", all(x), before);
        for (int what = 0; what < 3; what++) {
            due("set(" + what + ", lowest)", x.set(what, low[what]), first[what]);
            due("count", x.count(9 + what), low[what]);
            due("set(" + what + ", highest)", x.set(what, high[what]), low[what]);
            due("count", x.count(9 + what), high[what]);
        }
        x = new BoltTailors();
        due("set(0, 4)", x.set(0, 4), 4);
        due("a change, also without a difference", x.count(13), 1);

        x = on("aabaa");
        x.cut(2, LEFT);
        x.set(FOLD, 9);
        due("what was cut keeps its worth", x.coat(0, 0), 5);
        due("piece(0, 0, 2)", x.piece(0, 0, 2), 5);
        due("worth() with the new one", x.worth(2, RIGHT), 11);
        due("lead(1) with the new one", x.lead(1), x.lead(0));
        due("undo()", x.undo(), 2);
        due("count(10) after undo()", x.count(10), 3);
    }

    private static void append() {
        about("promise 8");
        BoltTailors x = new BoltTailors();
        for (int code : new int[] {32, 127, 0, -1, 31, 128, 256, MAX, MIN, 65536 + 97}) {
            due("append(" + code + ")", x.append(code), INVALID);
        }
        due("count(12)", x.count(12), 0);
        due("append(33)", x.append(33), 1);
        due("append(126)", x.append(126), 2);
        x.clear();
        for (int i = 1; i <= 60; i++) {
            due("append(98)", x.append(98), i);
        }
        due("append(98), full", x.append(98), LIMIT);
        due("append(32), full", x.append(32), INVALID);
        due("count(12)", x.count(12), 60);
        due("count(13), no change", x.count(13), 0);
        due("fault(1)", x.fault(1), NONE);
    }

    private static void clear() {
        about("promise 9");
        BoltTailors x = new BoltTailors();
        due("clear(), empty", x.clear(), 0);
        type(x, "abc");
        due("clear()", x.clear(), 3);
        due("count(12)", x.count(12), 0);
        due("count(13), no change", x.count(13), 0);
        due("append(97)", x.append(97), 1);
        due("fault(0)", x.fault(0), NONE);
        due("clear()", x.clear(), 1);
        due("clear()", x.clear(), 0);
    }

    private static void faultIs(int way, String text, int want) {
        BoltTailors x = type(new BoltTailors(), text);
        due("fault(" + way + ") of \"" + text + "\"", x.fault(way), want);
        due("the pad stays", x.count(12), text.length());
    }

    private static void fault() {
        about("promise 10");
        BoltTailors x = new BoltTailors();
        due("fault(-1)", x.fault(-1), INVALID);
        due("fault(2)", x.fault(2), INVALID);
        String twenty = "abcdefabcdefabcdefab";
        String[] bolts = {"a", "abc", "fff", "abcdefa", twenty, "a*1", "abc*9", "abc*10", "abc*19", "abc*20", "abcdef*12+5",
            "abc*5+0", "abc*5+2", "a*5+0", "abc*20+2", "abc*2+1"};
        for (String text : bolts) {
            faultIs(0, text, NONE);
        }
        String[] early = {"", "g", "*3", "A", "1", "+", "`", "l1"};
        for (String text : early) {
            faultIs(0, text, 0);
        }
        faultIs(0, twenty + "a", 20);
        faultIs(0, twenty + "*", 20);
        faultIs(0, twenty + "abc", 20);
        faultIs(0, "abcabca*7", 7);
        faultIs(0, "abc*", 4);
        faultIs(0, "abc*0", 4);
        faultIs(0, "abc*07", 4);
        faultIs(0, "abc**", 4);
        faultIs(0, "abc*a", 4);
        faultIs(0, "abc*+", 4);
        faultIs(0, "abc*21", 5);
        faultIs(0, "abc*30", 5);
        faultIs(0, "abc*99", 5);
        faultIs(0, "abc*5a", 5);
        faultIs(0, "abc*100", 6);
        faultIs(0, "abc*200", 6);
        faultIs(0, "abc*5+", 6);
        faultIs(0, "abc*5+3", 6);
        faultIs(0, "abc*5+a", 6);
        faultIs(0, "abc*5++", 6);
        faultIs(0, "abc*5+23", 7);
        faultIs(0, "abc*5+00", 7);
        faultIs(0, "abc*20+2+", 8);
        faultIs(0, "a*5+1", 4);
        faultIs(0, "abcdef*5+6", 9);
        faultIs(0, "abc+1", 3);
        faultIs(0, "abcg", 3);
        faultIs(0, "ab c".replace(" ", "!"), 2);

        String fifty = "bgl1r5bgl2bgl1r5bgl2bgl1r5bgl2bgl1r5bgl2bgl1r5bgl2";
        for (String text : new String[] {"b", "g", "l1", "l5", "r1", "r5", "bgl1r2", "gg", fifty + "bgbgbgbgbg", fifty + "bbbbbbbbl1"}) {
            faultIs(1, text, NONE);
        }
        faultIs(1, "", 0);
        faultIs(1, "a", 0);
        faultIs(1, "1", 0);
        faultIs(1, "l", 1);
        faultIs(1, "r", 1);
        faultIs(1, "l0", 1);
        faultIs(1, "l6", 1);
        faultIs(1, "lb", 1);
        faultIs(1, "ll1", 1);
        faultIs(1, "l12", 2);
        faultIs(1, "bb1", 2);
        faultIs(1, "l1r", 3);
        faultIs(1, "l1r2x", 4);
        faultIs(1, fifty + "bbbbbbbbl", 59);
        faultIs(1, fifty + "bbbbbbbbbx", 59);
        // a pad has 60 characters at most, so none begins with 59 characters and this "l"
        faultIs(1, fifty + "bbbbbbbbbl", 59);
        faultIs(1, fifty + "bbbbbbbbbr", 59);
    }

    private static void loads(String text, String want) {
        BoltTailors x = new BoltTailors();
        x.set(MATCH, 5);
        x.cut(1, LEFT);
        type(x, text);
        due("load() of " + text, x.load(), want.length());
        same("bolt of " + text, bolt(x), want);
        due("count(1)", x.count(1), want.length());
        due("count(2)", x.count(2), 0);
        due("count(3)", x.count(3), want.length() - 1);
        due("count(4)", x.count(4), 0);
        due("count(5)", x.count(5), 0);
        due("count(11)", x.count(11), 5);
        due("count(12)", x.count(12), 0);
        due("count(13)", x.count(13), 3);
        due("coat(0, 1)", x.coat(0, 1), 0);
    }

    private static void load() {
        about("promise 11");
        loads("fedcba", "fedcba");
        loads("abcdefabcdefabcdefab", "abcdefabcdefabcdefab");
        loads("a", "a");
        loads("abc*7", "abcabca");
        loads("abc*7+1", "bcabcab");
        loads("abc*7+2", "cabcabc");
        loads("abc*7+0", "abcabca");
        loads("abcdef*3+5", "fab");
        loads("abcdef*2", "ab");
        loads("f*20", "ffffffffffffffffffff");
        loads("ab*10+1", "bababababa");
        loads("abc*1+2", "c");
        BoltTailors x = new BoltTailors();
        String before = all(x);
        due("load(), empty", x.load(), NOT_POSSIBLE);
        same("state after the error", all(x), before);
        type(x, "abc*");
        before = all(x);
        due("load(), not complete", x.load(), NOT_POSSIBLE);
        same("state after the error, with the pad", all(x), before);
        x.append('0');
        due("load(), wrong", x.load(), NOT_POSSIBLE);
        due("the pad stays", x.clear(), 5);
        type(x, "ab*3").load();
        due("undo()", x.undo(), 0);
        same("bolt after undo()", bolt(x), "abcabcabcabc");
        due("the pad does not come back", x.count(12), 0);
    }

    private static void play() {
        about("promise 12");
        BoltTailors x = type(new BoltTailors(), "l4r3l2");
        due("play()", x.play(), 3);
        due("count(2)", x.count(2), 6);
        due("count(3)", x.count(3), 8);
        due("count(4)", x.count(4), 1);
        due("count(12)", x.count(12), 0);
        due("count(13), one change", x.count(13), 1);
        due("undo()", x.undo(), 0);
        due("count(1) after undo()", x.count(1), 12);
        due("the pad does not come back", x.count(12), 0);

        x = type(new BoltTailors(), "l4l5r1");
        due("play() up to more than LONGEST", x.play(), 1);
        due("count(1)", x.count(1), 8);
        due("count(12)", x.count(12), 0);
        x = type(on("abc"), "l2r2l1");
        due("play() up to more than are left", x.play(), 1);
        due("count(1)", x.count(1), 1);
        x = type(on("abc"), "l2r1b");
        due("play() up to the end, b", x.play(), 2);
        x = type(on("abc"), "l2r1g");
        due("play() up to the end, g", x.play(), 2);
        x = type(on("abc"), "l2r1l1");
        due("play() up to the end, l", x.play(), 2);
        x = type(new BoltTailors(), "l5");
        due("play() of none", x.play(), 0);
        due("it is a change", x.count(13), 1);
        due("count(12)", x.count(12), 0);
        x = type(emptied(), "bg");
        due("play(), over", x.play(), 0);
        due("it is a change", x.count(13), 3);

        x = type(on("aabb", 3, 3, 2), "bb");
        due("play() by best cuts", x.play(), 2);
        due("coat(0, 0)", x.coat(0, 0), 3);
        x = type(on("aabb", 3, 3, 2), "gg");
        due("play() by greed", x.play(), 2);
        due("coat(0, 0)", x.coat(0, 0), 5);

        x = new BoltTailors();
        String before = all(x);
        due("play(), empty", x.play(), NOT_POSSIBLE);
        same("state after the error", all(x), before);
        type(x, "l1r");
        before = all(x);
        due("play(), not complete", x.play(), NOT_POSSIBLE);
        same("state after the error, with the pad", all(x), before);
        x.append('6');
        due("play(), wrong", x.play(), NOT_POSSIBLE);
        due("the pad stays", x.clear(), 4);
        StringBuilder full = new StringBuilder();
        for (int i = 0; i < 60; i++) {
            full.append('b');
        }
        type(x, full.toString());
        x.set(LONGEST, 1);
        due("play() of a full pad", x.play(), 12);
    }

    private static void stripe() {
        about("promise 13");
        BoltTailors x = on("fedcba");
        x.cut(2, LEFT);
        for (int i = 0; i < 6; i++) {
            due("stripe(" + i + "), cut ones too", x.stripe(i), 5 - i);
        }
        due("stripe(-1)", x.stripe(-1), INVALID);
        due("stripe(6)", x.stripe(6), INVALID);
        due("stripe(12)", x.stripe(12), INVALID);
        due("stripe(20)", x.stripe(20), INVALID);
        due("stripe(MAX)", x.stripe(Integer.MAX_VALUE), INVALID);
        due("stripe(MIN)", x.stripe(Integer.MIN_VALUE), INVALID);
        x = on("abcdef*20");
        due("stripe(19)", x.stripe(19), 1);
        due("stripe(20)", x.stripe(20), INVALID);
    }

    private static void coat() {
        about("promise 14");
        BoltTailors x = new BoltTailors();
        for (int[] args : new int[][] {{-1, 0}, {2, 0}, {0, -1}, {0, 6}, {1, 6}, {Integer.MIN_VALUE, 3}, {1, Integer.MAX_VALUE}}) {
            due("coat(" + args[0] + ", " + args[1] + ")", x.coat(args[0], args[1]), INVALID);
        }
        due("coat(1, 3) without a piece", x.coat(1, 3), NONE);
        x = on("acaabacc", 3, 9, 8);
        x.cut(1, LEFT);
        x.cut(1, LEFT);
        x.cut(2, LEFT);
        x.cut(1, RIGHT);
        x.cut(1, LEFT);
        int[] zero = {1 + 19 + 1, 3, 4, 1, 1, 1};
        int[] one = {1 + 9, 2, 2, 2, 1, 0};
        for (int what = 0; what <= 5; what++) {
            due("coat(0, " + what + ")", x.coat(0, what), zero[what]);
            due("coat(1, " + what + ")", x.coat(1, what), one[what]);
        }
        x = on("acaa", 4, 0, 0);
        x.cut(1, LEFT);
        x.cut(1, LEFT);
        x.cut(2, LEFT);
        due("coat(0, 0) at FOLD 0 and MATCH 0", x.coat(0, 0), 3);
        due("coat(0, 4), paid at MATCH 0 too", x.coat(0, 4), 1);
        due("coat(0, 5), paid at FOLD 0 too", x.coat(0, 5), 1);
    }

    private static void piece() {
        about("promise 15");
        BoltTailors x = new BoltTailors();
        for (int[] args : new int[][] {{-1, 0, 0}, {2, 0, 0}, {0, -1, 0}, {0, 0, -1}, {0, 0, 4}, {0, 99, 4}, {3, 99, 0},
            {1, Integer.MIN_VALUE, 0}}) {
            due("piece(" + args[0] + ", " + args[1] + ", " + args[2] + ")", x.piece(args[0], args[1], args[2]), INVALID);
        }
        due("piece(0, 0, 0), none", x.piece(0, 0, 0), NONE);
        due("piece(1, MAX, 3), none", x.piece(1, Integer.MAX_VALUE, 3), NONE);
        x = on("abcabbacab");
        x.cut(3, LEFT);
        x.cut(2, RIGHT);
        x.cut(1, RIGHT);
        x.cut(4, LEFT);
        int[][] due = {{0, 3, 3, 1}, {8, 2, 2, 0}, {7, 1, 3, 0}, {3, 4, 7, 1}};
        for (int cut = 0; cut < due.length; cut++) {
            for (int what = 0; what <= 3; what++) {
                due("piece(" + cut % 2 + ", " + cut / 2 + ", " + what + ")", x.piece(cut % 2, cut / 2, what), due[cut][what]);
            }
        }
        due("piece(0, 2, 0), not so many", x.piece(0, 2, 0), NONE);
        due("piece(1, 2, 0), not so many", x.piece(1, 2, 0), NONE);
        x = on("a*20", 1, 0, 0);
        for (int i = 0; i < 20; i++) {
            x.cut(1, RIGHT);
        }
        due("piece(1, 9, 0), the last of twenty", x.piece(1, 9, 0), 0);
        due("piece(1, 10, 0)", x.piece(1, 10, 0), NONE);
        x = on("abc");
        x.cut(3, RIGHT);
        due("piece(0, 0, 3), all from the right", x.piece(0, 0, 3), 0);
    }

    private static void count() {
        about("promise 16");
        BoltTailors x = on("aabcbadd", 3, 1, 0);
        due("count(-1)", x.count(-1), INVALID);
        due("count(14)", x.count(14), INVALID);
        due("count(MAX)", x.count(Integer.MAX_VALUE), INVALID);
        due("count(MIN)", x.count(Integer.MIN_VALUE), INVALID);
        type(x, "xyz");
        int[] first = {8, 8, 0, 7, 0, 0, 5, 4, 5, 3, 1, 0, 3, 4};
        for (int what = 0; what <= 13; what++) {
            due("count(" + what + ")", x.count(what), first[what]);
        }
        x.cut(2, LEFT);
        x.cut(1, RIGHT);
        x.cut(3, LEFT);
        int[] then = {8, 2, 5, 6, 1, 3, 1, 2, 1, 3, 1, 0, 3, 4};
        for (int what = 0; what <= 13; what++) {
            due("count(" + what + ") then", x.count(what), then[what]);
        }
        x.cut(2, LEFT);
        int[] last = {8, 0, NONE, NONE, NONE, 4, 0, 0, 0, 3, 1, 0, 3, 4};
        for (int what = 0; what <= 13; what++) {
            due("count(" + what + ") at the end", x.count(what), last[what]);
        }
        due("count(8) of an even fold", on("cabbad").count(8), 4);
        due("count(8) of a whole bolt", on("ab*19").count(8), 19);
        due("count(8), 1 without a fold", on("abcdef").count(8), 1);
        due("count(6) of one stripe", on("a").count(6), 0);
        due("count(6) of one colour", on("a*20").count(6), 0);
        due("count(7) of six colours", on("abcdef*20").count(7), 6);
    }

    private static void left() {
        about("promise 17");
        BoltTailors x = on("aabbbf");
        int[] first = {2, 3, 0, 0, 0, 1};
        for (int colour = 0; colour < 6; colour++) {
            due("left(" + colour + ")", x.left(colour), first[colour]);
        }
        due("left(-1)", x.left(-1), INVALID);
        due("left(6)", x.left(6), INVALID);
        due("left(MIN)", x.left(Integer.MIN_VALUE), INVALID);
        x.cut(1, LEFT);
        x.cut(2, RIGHT);
        int[] then = {1, 2, 0, 0, 0, 0};
        for (int colour = 0; colour < 6; colour++) {
            due("left(" + colour + ") then", x.left(colour), then[colour]);
        }
        due("left(0), over", emptied().left(0), 0);
        due("left(6), over", emptied().left(6), INVALID);
    }

    private static void worth() {
        about("promise 18");
        BoltTailors x = on("acaacb", 4, 9, 8);
        x.cut(1, LEFT);
        x.cut(1, RIGHT);
        String before = all(x);
        due("worth(1, left)", x.worth(1, LEFT), 1);
        due("worth(2, left)", x.worth(2, LEFT), 2);
        due("worth(4, left)", x.worth(4, LEFT), 13);
        due("worth(4, right)", x.worth(4, RIGHT), 13);
        due("worth(2, right), a match", x.worth(2, RIGHT), 10);
        due("worth(3, right), a match", x.worth(3, RIGHT), 11);
        due("worth(5, left), more than LONGEST", x.worth(5, LEFT), NOT_POSSIBLE);
        due("worth(0, left)", x.worth(0, LEFT), INVALID);
        due("worth(6, left)", x.worth(6, LEFT), INVALID);
        due("worth(-5, right)", x.worth(-5, RIGHT), INVALID);
        same("state after it", all(x), before);
        x = on("ab");
        due("worth(3, left), more than are left", x.worth(3, LEFT), NOT_POSSIBLE);
        due("worth(1, left), over", emptied().worth(1, LEFT), NOT_POSSIBLE);
        due("worth(6, left), over", emptied().worth(6, LEFT), INVALID);
    }

    private static void leadIs(BoltTailors x, int want) {
        due("lead(0)", x.lead(0), want);
        due("lead(1)", x.lead(1), want);
        due("lead(0) once more", x.lead(0), want);
    }

    private static void lead() {
        about("promise 19");
        BoltTailors x = new BoltTailors();
        due("lead(-1)", x.lead(-1), INVALID);
        due("lead(2)", x.lead(2), INVALID);
        due("lead(2), over", emptied().lead(2), INVALID);
        leadIs(x, 1004);
        leadIs(emptied(), 1000);
        leadIs(on("aabb", 3, 3, 2), 1002);
        leadIs(on("aba"), 1006);
        leadIs(on("a"), 1001);
        leadIs(on("abca", 2, 3, 2), 1000);
        leadIs(on("aaaaa", 2, 3, 2), 1003);
        leadIs(on("aaaa", 4, 9, 9), 1013);
        // one stripe each: both match from the second cut on
        leadIs(on("abab", 1, 0, 9), 1000);
        x = on("aba", 1, 0, 9);
        leadIs(x, 1001);
        x.cut(1, LEFT);
        // with b the other one matches an a; with the a nobody does
        leadIs(x, 1000);
        x.cut(1, LEFT);
        leadIs(x, 1010);
        x.set(MATCH, 0);
        leadIs(x, 1001);
        x.undo();
        leadIs(x, 1010);
        String before = all(x);
        x.lead(0);
        x.lead(1);
        same("state after it", all(x), before);
        // told with the latest settings and the latest bolt, whichever was told ahead
        x = on("aabb", 3, 3, 2);
        leadIs(x, 1002);
        x.set(LONGEST, 1);
        leadIs(x, on("aabb", 1, 3, 2).lead(1));
        x.undo();
        leadIs(x, 1002);
        x.set(LONGEST, 2);
        x.set(FOLD, 9);
        x.set(MATCH, 8);
        leadIs(x, on("aabb", 2, 9, 8).lead(1));
        x.undo();
        x.undo();
        x.undo();
        leadIs(x, 1002);
        type(x, "babb").load();
        leadIs(x, on("babb", 3, 3, 2).lead(1));
        x = on("abcdef*20", 5, 9, 9);
        int long5 = x.lead(1);
        due("lead(0)", x.lead(0), long5);
        x.set(LONGEST, 1);
        due("lead(0) at LONGEST 1", x.lead(0), x.lead(1));
        x.undo();
        due("lead(1) after undo()", x.lead(1), long5);
    }

    private static void leadWith() {
        about("promise 20");
        BoltTailors x = on("aabb", 3, 3, 2);
        String before = all(x);
        due("leadWith(3, left)", x.leadWith(3, LEFT), 1002);
        due("leadWith(3, right)", x.leadWith(3, RIGHT), 1002);
        due("leadWith(2, left)", x.leadWith(2, LEFT), 1000);
        due("leadWith(1, left)", x.leadWith(1, LEFT), 998);
        due("leadWith(4, left), more than LONGEST", x.leadWith(4, LEFT), NOT_POSSIBLE);
        due("leadWith(0, left)", x.leadWith(0, LEFT), INVALID);
        due("leadWith(6, right)", x.leadWith(6, RIGHT), INVALID);
        same("state after it", all(x), before);
        x = on("aba", 1, 0, 9);
        x.cut(1, LEFT);
        due("leadWith(1, left)", x.leadWith(1, LEFT), 991);
        due("leadWith(1, right)", x.leadWith(1, RIGHT), 1000);
        due("leadWith(3, left), more than are left", on("ab").leadWith(3, LEFT), NOT_POSSIBLE);
        due("leadWith(1, left), over", emptied().leadWith(1, LEFT), NOT_POSSIBLE);
        due("leadWith(6, left), over", emptied().leadWith(6, LEFT), INVALID);
        due("leadWith(2, right), all", on("ab").leadWith(2, RIGHT), 1002);
    }

    private static void bestCut() {
        about("promise 21");
        BoltTailors x = on("aabb", 3, 3, 2);
        String before = all(x);
        due("bestCut(), left ahead of right", x.bestCut(), 3);
        same("state after it", all(x), before);
        due("bestCut() from the right", on("abaaa", 3, 3, 2).bestCut(), 13);
        due("bestCut() of one from the right", on("ababa", 2, 3, 2).bestCut(), 11);
        due("bestCut(), shorter ahead of longer", on("aaaaa", 2, 3, 2).bestCut(), 1);
        due("bestCut(), all", on("ab").bestCut(), 2);
        due("bestCut(), over", emptied().bestCut(), NOT_POSSIBLE);
        x = on("aba", 1, 0, 9);
        x.cut(1, LEFT);
        due("bestCut() keeps a match from the other one", x.bestCut(), 11);
    }

    private static void ended() {
        about("promise 22");
        BoltTailors x = on("aabb", 3, 3, 2);
        for (int[] args : new int[][] {{-1, 0, 0}, {2, 0, 0}, {0, -1, 0}, {0, 2, 0}, {0, 0, -1}, {1, 1, 3}, {9, 9, 9}}) {
            due("ended(" + args[0] + ", " + args[1] + ", " + args[2] + ")", x.ended(args[0], args[1], args[2]), INVALID);
        }
        String before = all(x);
        int[][] due = {{0, 0, 3, 1, 2}, {0, 1, 3, 1, 2}, {1, 0, 5, 5, 2}, {1, 1, 5, 5, 2}};
        for (int[] row : due) {
            for (int what = 0; what <= 2; what++) {
                due("ended(" + row[0] + ", " + row[1] + ", " + what + ")", x.ended(row[0], row[1], what), row[2 + what]);
            }
        }
        same("state after it", all(x), before);
        x = new BoltTailors();
        due("ended(1, 0, 0)", x.ended(1, 0, 0), 9);
        due("ended(1, 0, 1)", x.ended(1, 0, 1), 5);
        x.cut(4, LEFT);
        x.cut(4, LEFT);
        due("ended(0, 0, 0), with what was cut", x.ended(0, 0, 0), 8);
        due("ended(0, 0, 1), with what was cut", x.ended(0, 0, 1), 4);
        due("ended(0, 0, 2), from now on", x.ended(0, 0, 2), 1);
        x.best();
        due("ended(0, 0, 0), over", x.ended(0, 0, 0), 8);
        due("ended(1, 1, 1), over", x.ended(1, 1, 1), 4);
        due("ended(1, 0, 2), over", x.ended(1, 0, 2), 0);
        due("ended(1, 0, 3), over", x.ended(1, 0, 3), INVALID);
        x = on("ab*20", 1, 0, 0);
        due("ended(0, 1, 2) of twenty cuts", x.ended(0, 1, 2), 20);
        due("ended(0, 1, 1) of twenty cuts", x.ended(0, 1, 1), 10);
        x = on("caabb", 3, 3, 2);
        x.cut(1, LEFT);
        due("ended(1, 0, 1), the tailor 1 is on turn", x.ended(1, 0, 1), 3);
        due("ended(0, 1, 1), the tailor 1 is on turn", x.ended(0, 1, 1), 5);
    }

    private static void rate() {
        about("promise 23");
        BoltTailors x = on("aabbc");
        due("rate() without any", x.rate(), 0.0);
        x.cut(2, LEFT);
        due("rate() of one coat", x.rate(), 2.5);
        x.cut(1, RIGHT);
        due("rate() of both", x.rate(), 2.0);
        x.cut(1, LEFT);
        due("rate() of both then", x.rate(), 1.75);
        x.again();
        due("rate() again", x.rate(), 0.0);
        x = on("abac");
        x.cut(1, LEFT);
        x.cut(1, RIGHT);
        x.cut(1, RIGHT);
        due("rate() of five thirds", x.rate(), 5.0 / 3.0);
    }

    private static void undo() {
        about("promise 24");
        BoltTailors x = new BoltTailors();
        due("undo(), no state", x.undo(), NOT_POSSIBLE);
        String[] before = new String[7];
        for (int i = 0; i < 7; i++) {
            before[i] = i < 3 ? "" : looks(x);
            switch (i) {
                case 0: type(x, "abcddca").load(); break;
                case 1: x.cut(1, LEFT); break;
                case 2: x.mirror(); break;
                case 3: x.set(FOLD, 8); break;
                case 4: x.best(); break;
                case 5: type(x, "l1").play(); break;
                default: x.greedy(); break;
            }
            due("count(13)", x.count(13), Math.min(i + 1, 4));
        }
        type(x, "xyz");
        for (int i = 6; i >= 3; i--) {
            due("undo() " + i, x.undo(), i - 3);
            same("state " + i, looks(x), before[i]);
            due("the pad stays", x.count(12), 3);
        }
        due("undo(), the oldest were dropped", x.undo(), NOT_POSSIBLE);
        same("state after the error", looks(x), before[3]);

        x = new BoltTailors();
        x.save();
        x.cut(3, LEFT);
        x.restore();
        due("undo() of restore()", x.undo(), 1);
        due("count(1)", x.count(1), 9);
        x.cut(1, LEFT);
        x.save();
        x.undo();
        due("the snapshot stays at undo()", x.restore(), 8);

        // what is no change, and what fails, is not recorded
        x = new BoltTailors();
        x.cut(1, LEFT);
        x.lead(0);
        x.worth(1, LEFT);
        x.ended(0, 0, 0);
        x.bestCut();
        x.save();
        x.cut(9, LEFT);
        x.cut(5, LEFT);
        x.set(0, 9);
        x.load();
        x.play();
        x.append('a');
        x.clear();
        due("count(13)", x.count(13), 1);
        due("undo()", x.undo(), 0);
        due("count(1)", x.count(1), 12);
        x = emptied();
        x.best();
        x.greedy();
        x.restore();
        due("count(13)", x.count(13), 2);
    }

    private static void save() {
        about("promise 25");
        BoltTailors x = new BoltTailors();
        due("save()", x.save(), 12);
        due("count(13), no change", x.count(13), 0);
        x.cut(4, LEFT);
        due("save() in place of the one that was", x.save(), 8);
        x.cut(2, LEFT);
        due("restore()", x.restore(), 8);
        due("save(), over", emptied().save(), 0);
        x = new BoltTailors();
        type(x, "ab").save();
        x.clear();
        x.restore();
        due("the pad is not in the snapshot", x.count(12), 0);
    }

    private static void restore() {
        about("promise 26");
        BoltTailors x = new BoltTailors();
        String empty = all(x);
        due("restore(), no snapshot", x.restore(), NOT_POSSIBLE);
        same("state after the error", all(x), empty);
        x = on("aabbccdd", 3, 7, 5);
        x.cut(2, LEFT);
        x.cut(2, RIGHT);
        x.mirror();
        String kept = looks(x);
        x.save();
        same("state after save()", looks(x), kept);
        x.set(FOLD, 1);
        type(x, "abc").load();
        x.cut(3, LEFT);
        type(x, "zz");
        due("restore()", x.restore(), 4);
        same("state restored", looks(x), kept);
        due("the pad stays", x.count(12), 2);
        due("it is a change", x.count(13), 4);
        x.again();
        x.mirror();
        due("the snapshot stays", x.restore(), 4);
        same("state restored once more", looks(x), kept);
        x.undo();
        due("count(1) after undo()", x.count(1), 8);
        x.restore();
        x.cut(1, LEFT);
        x.restore();
        same("a cut after restore() leaves the snapshot alone", looks(x), kept);
        x = on("abcab");
        x.cut(2, LEFT);
        kept = looks(x);
        x.save();
        x.again();
        x.cut(1, RIGHT);
        x.restore();
        same("the pieces restored", looks(x), kept);
        x.undo();
        due("the pieces undone", x.piece(0, 0, 0), 4);
        x = emptied();
        x.save();
        x.again();
        due("restore(), over", x.restore(), 0);
        due("count(4)", x.count(4), NONE);
    }
}
