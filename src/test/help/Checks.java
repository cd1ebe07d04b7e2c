import java.lang.reflect.InvocationTargetException;
import java.lang.reflect.Method;

/** What several tests need: answers compared, bolts by their texts, and all that can be looked at as one text. */
abstract class Checks {
    static final int INVALID = BoltTailors.INVALID_ARGUMENT;
    static final int NOT_POSSIBLE = BoltTailors.NOT_POSSIBLE;
    static final int LIMIT = BoltTailors.LIMIT_REACHED;
    static final int NONE = BoltTailors.NOT_FOUND;
    static final int LONGEST = BoltTailors.LONGEST;
    static final int FOLD = BoltTailors.FOLD;
    static final int MATCH = BoltTailors.MATCH;
    static final boolean LEFT = true;
    static final boolean RIGHT = false;
    static final boolean[] BOTH_ENDS = {LEFT, RIGHT};
    static final String TWENTY = "abcdefabcdefabcdefab";
    static final int MIN = Integer.MIN_VALUE;
    static final int MAX = Integer.MAX_VALUE;

    private static String about = "";
    private static int made = 0;
    private static int wrong = 0;

    static void about(String what) {
        about = what;
    }

    static void due(String call, double got, double want) {
        made++;
        if (got != want) {
            fail(call + " answered " + got + ", due is " + want);
        }
    }

    static void same(String what, String got, String want) {
        made++;
        if (!got.equals(want)) {
            fail(what + " is " + got + ", due is " + want);
        }
    }

    static void fail(String what) {
        wrong++;
        System.out.println(about + ": " + what);
    }

    static void end(String name) {
        System.out.println(name + ": " + made + " answers, " + (wrong == 0 ? "all as due" : wrong + " not as due"));
        if (wrong != 0) {
            System.exit(1);
        }
    }

    /** Runs each method of a test that bears words of the document. */
    static void eachSentence(Class<?> test) throws IllegalAccessException {
        for (Method sentence : test.getDeclaredMethods()) {
            Says says = sentence.getAnnotation(Says.class);
            if (says == null) {
                continue;
            }
            about(says.value() + " [" + sentence.getName() + "]");
            int before = made;
            try {
                sentence.invoke(null);
            } catch (InvocationTargetException e) {
                fail("threw " + e.getCause());
            }
            if (made == before) {
                fail("nothing is tested");
            }
        }
    }

    // ---- bolts

    static BoltTailors type(BoltTailors x, String text) {
        for (int i = 0; i < text.length(); i++) {
            if (x.append(text.charAt(i)) < 0) {
                throw new IllegalStateException("the pad does not take " + text);
            }
        }
        return x;
    }

    static BoltTailors pad(String text) {
        return type(new BoltTailors(), text);
    }

    static BoltTailors on(String bolt) {
        BoltTailors x = pad(bolt);
        if (x.load() < 0) {
            throw new IllegalStateException("no bolt " + bolt);
        }
        return x;
    }

    static BoltTailors on(String bolt, int longest, int fold, int match) {
        BoltTailors x = on(bolt);
        x.set(LONGEST, longest);
        x.set(FOLD, fold);
        x.set(MATCH, match);
        return x;
    }

    static BoltTailors emptied() {
        BoltTailors x = on("ab");
        x.cut(2, LEFT);
        return x;
    }

    /** Cuts told as on the pad ("l2r1"), but each by a call of its own. */
    static BoltTailors cuts(BoltTailors x, String cuts) {
        for (int i = 0; i + 1 < cuts.length(); i += 2) {
            if (x.cut(cuts.charAt(i + 1) - '0', cuts.charAt(i) == 'l') < 0) {
                throw new IllegalStateException("cut " + i / 2 + " of " + cuts + " is refused");
            }
        }
        return x;
    }

    static String repeat(String text, int times) {
        return text.repeat(times);
    }

    // ---- looks

    static String bolt(BoltTailors x) {
        StringBuilder text = new StringBuilder();
        int stripes = x.count(0);
        for (int i = 0; i < stripes; i++) {
            text.append((char) ('a' + x.stripe(i)));
        }
        return text.toString();
    }

    /** All that can be looked at, but the pad and the length of the history. */
    static String looks(BoltTailors x) {
        StringBuilder text = new StringBuilder(bolt(x));
        for (int what = 1; what <= 11; what++) {
            text.append(' ').append(x.count(what));
        }
        for (int tailor = 0; tailor < 2; tailor++) {
            text.append(" coat");
            for (int what = 0; what <= 5; what++) {
                text.append(' ').append(x.coat(tailor, what));
            }
            int pieces = x.coat(tailor, 1);
            for (int piece = 0; piece < pieces; piece++) {
                for (int what = 0; what <= 3; what++) {
                    text.append(' ').append(x.piece(tailor, piece, what));
                }
            }
        }
        return text.append(" lead ").append(x.lead(0)).append(' ').append(x.rate()).toString();
    }

    static String all(BoltTailors x) {
        return looks(x) + " pad " + x.count(12) + " " + x.fault(0) + " " + x.fault(1) + " states " + x.count(13);
    }
}
