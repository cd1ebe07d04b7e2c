/** What the promises 1 to 26 say of boundary cases: a test for each of the sentences. */
public final class PromisesBoundaryTest extends Checks {
    private static final int[] NO_SIZES = {MIN, -1000, -5, -1, 0, 6, 7, 10, 11, 15, 1000, MAX};

    public static void main(String[] args) throws Exception {
        eachSentence(PromisesBoundaryTest.class);
        end("boundaries of the promises");
    }

    /** Whatever is refused here leaves the object as it was. */
    private static void refused(String call, BoltTailors x, int got, int want, String before) {
        due(call, got, want);
        same("state after " + call, all(x), before);
    }

    private static void isNewGame(BoltTailors x, String bolt) {
        int stripes = bolt.length();
        same("the bolt", bolt(x), bolt);
        due("stripes", x.count(0), stripes);
        due("stripes left", x.count(1), stripes);
        due("the first one left", x.count(2), 0);
        due("the last one left", x.count(3), stripes - 1);
        due("the tailor on turn", x.count(4), 0);
        due("cuts so far", x.count(5), 0);
        for (int tailor = 0; tailor < 2; tailor++) {
            for (int what = 0; what <= 5; what++) {
                due("coat(" + tailor + ", " + what + ")", x.coat(tailor, what), what == 3 ? NONE : 0);
            }
            due("piece(" + tailor + ", 0, 0)", x.piece(tailor, 0, 0), NONE);
        }
        due("rate()", x.rate(), 0.0);
    }

    // ---- promise 1

    @Says("Promise 1: Begins a game with the bolt \"abcabcabcabc\".")
    static void aNewObject() {
        BoltTailors x = new BoltTailors();
        isNewGame(x, "abcabcabcabc");
        int[] settingsPadStates = {4, 3, 2, 0, 0};
        for (int what = 9; what <= 13; what++) {
            due("count(" + what + ")", x.count(what), settingsPadStates[what - 9]);
        }
        due("undo()", x.undo(), NOT_POSSIBLE);
        due("restore()", x.restore(), NOT_POSSIBLE);
        BoltTailors other = new BoltTailors();
        cuts(type(x, "abc"), "l4r4");
        x.set(FOLD, 9);
        x.save();
        isNewGame(other, "abcabcabcabc");
        due("another object's pad", other.count(12), 0);
        due("another object's FOLD", other.count(10), 3);
        due("another object's snapshot", other.restore(), NOT_POSSIBLE);
    }

    // ---- promise 2

    @Says("Promise 2: `stripes`: 1 to 5")
    static void cutTakesOneToFive() {
        for (int size : NO_SIZES) {
            for (boolean end : BOTH_ENDS) {
                BoltTailors x = on("abcabcabc", 5, 3, 2);
                String before = all(x);
                refused("cut(" + size + ", " + end + ")", x, x.cut(size, end), INVALID, before);
            }
        }
        for (boolean end : BOTH_ENDS) {
            due("cut(1, " + end + ")", on("abcabcabc", 5, 3, 2).cut(1, end), 1);
            due("cut(5, " + end + ")", on("abcabcabc", 5, 3, 2).cut(5, end), 5);
        }
    }

    @Says("Promise 2: `fromLeft`: whether from the left end, otherwise from the right one")
    static void cutFromLeftOrRight() {
        BoltTailors x = on("abcdef");
        x.cut(1, true);
        due("the first stripe left", x.count(2), 1);
        due("the last stripe left", x.count(3), 5);
        x.cut(1, false);
        due("the first stripe left", x.count(2), 1);
        due("the last stripe left", x.count(3), 4);
    }

    @Says("Promise 2: Returns what the cut is worth")
    static void cutIsWorthOneToTwentyThree() {
        BoltTailors x = cuts(on("acaaaaa", 5, 9, 9), "l1l1");
        due("the greatest worth", x.cut(5, RIGHT), 23);
        due("the least one", on("a", 5, 9, 9).cut(1, LEFT), 1);
        due("a match and no fold", cuts(on("acab", 5, 9, 9), "l1l1").cut(2, LEFT), 11);
        due("a fold and no match", cuts(on("acbb", 5, 9, 9), "l1l1").cut(2, LEFT), 11);
        due("both at FOLD 0 and MATCH 0", cuts(on("acaa", 5, 0, 0), "l1l1").cut(2, LEFT), 2);
    }

    @Says("Promise 2: NOT_POSSIBLE if the game is over")
    static void cutIfOver() {
        for (int size = 1; size <= 5; size++) {
            for (boolean end : BOTH_ENDS) {
                BoltTailors x = on("abcab", 5, 3, 2);
                x.cut(5, end);
                String before = all(x);
                refused("cut(" + size + ", " + end + ")", x, x.cut(size, end), NOT_POSSIBLE, before);
            }
        }
    }

    @Says("Promise 2: fewer stripes are left")
    static void cutOfMoreThanAreLeft() {
        for (int stripes = 1; stripes <= 4; stripes++) {
            for (boolean end : BOTH_ENDS) {
                BoltTailors x = on("abcd".substring(0, stripes), 5, 3, 2);
                String before = all(x);
                refused("cut of one more than " + stripes, x, x.cut(stripes + 1, end), NOT_POSSIBLE, before);
                due("cut of all " + stripes, x.cut(stripes, end), stripes);
            }
        }
    }

    @Says("Promise 2: they are more than LONGEST")
    static void cutOfMoreThanLongest() {
        for (int longest = 1; longest <= 4; longest++) {
            for (boolean end : BOTH_ENDS) {
                BoltTailors x = on("abcabcabc", longest, 3, 2);
                String before = all(x);
                refused("cut of one more than " + longest, x, x.cut(longest + 1, end), NOT_POSSIBLE, before);
                due("cut of LONGEST " + longest, x.cut(longest, end), longest);
            }
        }
    }

    // ---- promises 3 and 4

    private static void cutsOneStripe(boolean byGreed) {
        BoltTailors x = on("f");
        due("worth of the only stripe", byGreed ? x.greedy() : x.best(), 1);
        due("stripes left", x.count(1), 0);
        due("whether it is from the left", x.piece(0, 0, 3), 1);
        String before = all(x);
        refused("the call, over", x, byGreed ? x.greedy() : x.best(), NOT_POSSIBLE, before);
        x = cuts(on("aca", 1, 0, 9), "l1l1");
        due("worth of the last stripe, a match", byGreed ? x.greedy() : x.best(), 10);
        due("states", x.count(13), 4);
    }

    @Says("Promise 3: NOT_POSSIBLE if the game is over.")
    static void bestAtTheEnd() {
        cutsOneStripe(false);
    }

    @Says("Promise 4: NOT_POSSIBLE if the game is over.")
    static void greedyAtTheEnd() {
        cutsOneStripe(true);
    }

    @Says("Promise 3: Returns what it is worth")
    static void bestIsWorth() {
        due("best() of a fold", on("aaaaa", 5, 9, 9).best(), 14);
        due("best() of one that is worth less", on("aabb", 3, 3, 2).best(), 3);
        due("best() of the tailor 1", cuts(on("baaaaa", 5, 9, 9), "l1").best(), 14);
        due("best() at LONGEST 1", on("aaaaa", 1, 9, 9).best(), 1);
    }

    @Says("Promise 4: Returns what it is worth")
    static void greedyIsWorth() {
        due("greedy() of a fold", on("aaaaa", 5, 9, 9).greedy(), 14);
        due("greedy() of what is worth most", on("aabb", 3, 3, 2).greedy(), 5);
        due("greedy() of the tailor 1", cuts(on("baaaaa", 5, 9, 9), "l1").greedy(), 14);
        due("greedy() at LONGEST 1", on("aaaaa", 1, 9, 9).greedy(), 1);
    }

    // ---- promise 5

    @Says("Promise 5: Begins again with the same whole bolt: no coat has a piece, the tailor 0 is on turn.")
    static void againFromAnyState() {
        for (String cut : new String[] {"", "l2", "r2l1", "l1r1l1r1", "l2r2l1"}) {
            BoltTailors x = cuts(on("aabaa", 3, 7, 1), cut);
            type(x, "xy");
            due("again() after " + cut, x.again(), 5);
            isNewGame(x, "aabaa");
            due("LONGEST", x.count(9), 3);
            due("FOLD", x.count(10), 7);
            due("MATCH", x.count(11), 1);
            due("the pad", x.count(12), 2);
        }
        BoltTailors x = cuts(on("abcde"), "l1r1");
        x.mirror();
        x.again();
        isNewGame(x, "adcbe");
    }

    @Says("Promise 5: Returns how many stripes it has.")
    static void againOfOneAndOfTwenty() {
        due("again() of one", on("a").again(), 1);
        due("again() of twenty", cuts(on(TWENTY), "l4r4").again(), 20);
        due("again() of the first bolt", new BoltTailors().again(), 12);
        due("again(), over", emptied().again(), 2);
    }

    // ---- promise 6

    private static void mirrorIs(String bolt, String cut, String want, int changed) {
        BoltTailors x = cuts(on(bolt), cut);
        due("mirror() of " + bolt + " after " + cut, x.mirror(), changed);
        same("the whole bolt", bolt(x), want);
        due("mirror() back", x.mirror(), changed);
        same("the whole bolt", bolt(x), bolt);
    }

    @Says("Promise 6: Mirrors what is left of the bolt: its first stripe becomes its last one, and so on")
    static void mirrorOfWhatIsLeft() {
        mirrorIs("a", "", "a", 0);
        mirrorIs("ab", "", "ba", 2);
        mirrorIs("abc", "", "cba", 2);
        mirrorIs("abcd", "", "dcba", 4);
        mirrorIs("abcde", "", "edcba", 4);
        mirrorIs("abcdef", "l1", "afedcb", 4);
        mirrorIs("abcdef", "r1", "edcbaf", 4);
        mirrorIs("abcdef", "l3r2", "abcdef", 0);
        mirrorIs("abcdef", "l3r3", "abcdef", 0);
    }

    @Says("Promise 6: (the whole bolt, too, has them so then)")
    static void mirrorInTheWholeBolt() {
        BoltTailors x = cuts(on("abcdef"), "l1r1");
        x.mirror();
        for (int i = 0; i < 6; i++) {
            due("stripe(" + i + ")", x.stripe(i), new int[] {0, 4, 3, 2, 1, 5}[i]);
        }
        cuts(x, "l1");
        due("the coat's last colour", x.coat(0, 3), 4);
        x.again();
        same("the bolt after again()", bolt(x), "aedcbf");
    }

    @Says("Promise 6: Returns how many stripes have another colour then.")
    static void mirrorChangesNoneToTwenty() {
        due("mirror() of one", on("a").mirror(), 0);
        due("mirror() of one colour", on("a*20").mirror(), 0);
        due("mirror() of all", on("ab*20").mirror(), 20);
        due("mirror() of nineteen", on("ab*19").mirror(), 0);
        due("mirror() of nothing", emptied().mirror(), 0);
        due("mirror() of some", on("abccda").mirror(), 2);
        due("mirror() of both ends", on("abccbf").mirror(), 2);
    }

    // ---- promise 7

    @Says("Promise 7: `what`: 0 to 2")
    static void setOfZeroToTwo() {
        for (int what : new int[] {MIN, -1, 3, 4, MAX}) {
            for (int value : new int[] {0, 1, 2, 5, 9, -1, 10}) {
                BoltTailors x = new BoltTailors();
                String before = all(x);
                refused("set(" + what + ", " + value + ")", x, x.set(what, value), INVALID, before);
            }
        }
        due("set(0, 5)", new BoltTailors().set(0, 5), 4);
        due("set(2, 9)", new BoltTailors().set(2, 9), 2);
    }

    @Says("Promise 7: `value`: a value in its range")
    static void setInTheRange() {
        int[] lowest = {1, 0, 0};
        int[] highest = {5, 9, 9};
        int[] first = {4, 3, 2};
        for (int what = 0; what <= 2; what++) {
            BoltTailors x = new BoltTailors();
            String before = all(x);
            for (int value : new int[] {MIN, lowest[what] - 1, highest[what] + 1, MAX}) {
                refused("set(" + what + ", " + value + ")", x, x.set(what, value), INVALID, before);
            }
            due("set() of the lowest", x.set(what, lowest[what]), first[what]);
            due("set() of the highest", x.set(what, highest[what]), lowest[what]);
        }
    }

    @Says("Promise 7: (what was cut keeps its worth)")
    static void setKeepsWhatWasCut() {
        BoltTailors x = cuts(on("aacaad", 2, 5, 4), "l2l1l2");
        x.set(FOLD, 0);
        x.set(MATCH, 9);
        x.set(LONGEST, 1);
        due("piece(0, 0, 2)", x.piece(0, 0, 2), 7);
        due("piece(0, 1, 2)", x.piece(0, 1, 2), 11);
        due("piece(0, 1, 1), longer than LONGEST", x.piece(0, 1, 1), 2);
        due("coat(0, 0)", x.coat(0, 0), 18);
        due("coat(0, 4)", x.coat(0, 4), 1);
        due("coat(0, 5)", x.coat(0, 5), 2);
        due("rate()", x.rate(), 19.0 / 5);
        due("ended(0, 0, 0)", x.ended(0, 0, 0), 18);
    }

    @Says("Promise 7: Returns the value before")
    static void setReturnsTheValueBefore() {
        BoltTailors x = new BoltTailors();
        due("set(FOLD, 0)", x.set(FOLD, 0), 3);
        due("set(FOLD, 9)", x.set(FOLD, 9), 0);
        due("set(FOLD, 9) again", x.set(FOLD, 9), 9);
        due("set(FOLD, 10)", x.set(FOLD, 10), INVALID);
        x.undo();
        x.undo();
        due("set(FOLD, 1) after undo()", x.set(FOLD, 1), 0);
        due("the others", 10 * x.count(9) + x.count(11), 42);
    }

    // ---- promise 8

    @Says("Promise 8: `code`: the character code, 33 to 126")
    static void appendTakes33To126() {
        for (int code : new int[] {MIN, -97, -1, 0, 10, 31, 32, 127, 128, 255, 65536 + 97, MAX}) {
            BoltTailors x = pad("ab");
            String before = all(x);
            refused("append(" + code + ")", x, x.append(code), INVALID, before);
        }
        for (int code = 33; code <= 126; code++) {
            BoltTailors x = new BoltTailors();
            due("append(" + code + ")", x.append(code), 1);
            due("fault(0) of it", x.fault(0), code >= 'a' && code <= 'f' ? NONE : 0);
            due("fault(1) of it", x.fault(1), code == 'b' || code == 'g' ? NONE : code == 'l' || code == 'r' ? 1 : 0);
        }
    }

    @Says("Promise 8: Returns the length of the pad then")
    static void appendReturnsTheLength() {
        BoltTailors x = new BoltTailors();
        for (int length = 1; length <= 60; length++) {
            due("append()", x.append(33 + length), length);
            due("count(12)", x.count(12), length);
        }
        due("states", x.count(13), 0);
    }

    @Says("Promise 8: LIMIT_REACHED if it has 60 characters.")
    static void appendToAFullPad() {
        BoltTailors x = pad(repeat("b", 59));
        due("the 60th", x.append('g'), 60);
        String before = all(x);
        refused("the 61st", x, x.append('b'), LIMIT, before);
        refused("the 61st once more", x, x.append('~'), LIMIT, before);
        due("fault(1)", x.fault(1), NONE);
        due("clear()", x.clear(), 60);
        due("the first one then", x.append('b'), 1);
    }

    // ---- promise 9

    @Says("Promise 9: Empties the pad.")
    static void clearEmpties() {
        BoltTailors x = pad("abc");
        x.clear();
        due("count(12)", x.count(12), 0);
        due("fault(0)", x.fault(0), 0);
        due("load()", x.load(), NOT_POSSIBLE);
        due("states", x.count(13), 0);
        due("load() of what came then", type(x, "f").load(), 1);
        same("the bolt", bolt(x), "f");
    }

    @Says("Promise 9: Returns the length that it had.")
    static void clearReturnsTheLength() {
        BoltTailors x = new BoltTailors();
        due("clear(), empty", x.clear(), 0);
        for (int length = 1; length <= 60; length++) {
            due("clear() of " + length, pad(repeat("~", length)).clear(), length);
        }
        type(x, "ab").clear();
        due("clear() once more", x.clear(), 0);
        type(x, "ab").load();
        due("clear() after load()", x.clear(), 0);
        type(x, "b").play();
        due("clear() after play()", x.clear(), 0);
    }

    // ---- promise 10

    @Says("Promise 10: `way`: 0 if it is read as a bolt, 1 if it is read as cuts")
    static void faultOfTwoWays() {
        for (int way : new int[] {MIN, -1, 2, 3, MAX}) {
            for (String text : new String[] {"", "b", "~"}) {
                BoltTailors x = pad(text);
                due("fault(" + way + ") of \"" + text + "\"", x.fault(way), INVALID);
            }
        }
        due("fault(0) of ab", pad("ab").fault(0), NONE);
        due("fault(1) of ab", pad("ab").fault(1), 0);
        due("fault(0) of bg", pad("bg").fault(0), 1);
        due("fault(1) of bg", pad("bg").fault(1), NONE);
        due("fault(0) of b", pad("b").fault(0), NONE);
        due("fault(1) of b", pad("b").fault(1), NONE);
    }

    @Says("Promise 10: NOT_FOUND if it has none.")
    static void faultOfNone() {
        for (String text : new String[] {"a", TWENTY, "f*1", "f*20", "abcdef*20+5", "a*1+0"}) {
            BoltTailors x = pad(text);
            due("fault(0) of " + text, x.fault(0), NONE);
            due("the pad then", x.count(12), text.length());
            x.append('~');
            due("fault(0) of one more", x.fault(0), text.length());
        }
        for (String text : new String[] {"b", "g", "l1", "r5", repeat("b", 60), repeat("r5", 30)}) {
            BoltTailors x = pad(text);
            due("fault(1) of " + text, x.fault(1), NONE);
            due("the pad then", x.count(12), text.length());
        }
    }

    // ---- promise 11

    @Says("Promise 11: Begins a game with the bolt of the pad, and empties the pad.")
    static void loadBeginsAGame() {
        for (String cut : new String[] {"", "l1", "l2r2", "l1r1l1r1l1"}) {
            BoltTailors x = cuts(on("aabaa"), cut);
            x.set(MATCH, 9);
            due("load() after " + cut, type(x, "fe*5+1").load(), 5);
            isNewGame(x, "efefe");
            due("the pad", x.count(12), 0);
            due("MATCH", x.count(11), 9);
            due("lead(0)", x.lead(0), on("efefe", 4, 3, 9).lead(1));
        }
    }

    @Says("Promise 11: Returns how many stripes it has")
    static void loadOfOneToTwenty() {
        BoltTailors x = new BoltTailors();
        due("load() of twenty letters", type(x, TWENTY).load(), 20);
        due("load() of one letter", type(x, "f").load(), 1);
        due("stripe(1), of the bolt before", x.stripe(1), INVALID);
        due("left(1), of the bolt before", x.left(1), 0);
        due("load() of *20", type(x, "fa*20").load(), 20);
        due("stripe(19)", x.stripe(19), 0);
        due("load() of *1", type(x, "fa*1+1").load(), 1);
        due("stripe(0)", x.stripe(0), 0);
    }

    @Says("Promise 11: NOT_POSSIBLE if the pad has a fault, read as a bolt.")
    static void loadOfAFault() {
        String[] faults = {"", "g", "abc*", "abc*0", "abc*21", "abc*5+", "abc*5+3", TWENTY + "a", "abcdefa*2", "l1", "bg", "*5"};
        for (String text : faults) {
            BoltTailors x = cuts(pad(text), "l1");
            String before = all(x);
            refused("load() of \"" + text + "\"", x, x.load(), NOT_POSSIBLE, before);
            due("the pad's length", x.clear(), text.length());
        }
        due("load() of b, cuts too", pad("b").load(), 1);
    }

    // ---- promise 12

    private static void playIs(String bolt, String cuts, int made, int left) {
        BoltTailors x = type(on(bolt), cuts);
        due("play() of " + cuts + " on " + bolt, x.play(), made);
        due("cuts so far", x.count(5), made);
        due("stripes left", x.count(1), left);
        due("the pad", x.count(12), 0);
        due("states", x.count(13), 2);
        due("undo()", x.undo(), 1);
        due("stripes left after undo()", x.count(1), bolt.length());
        due("the pad after undo()", x.count(12), 0);
    }

    @Says("Promise 12: Makes the cuts of the pad, one after the other, up to the first one that is not possible")
    static void playUpToTheFirstNotPossible() {
        playIs("abcdef", "l5l1", 0, 6);
        playIs("abcdef", "l1l5l1r1bg", 1, 5);
        playIs("abcdef", "l4l3l1", 1, 2);
        playIs("abcdef", "l4l2l1", 2, 0);
        playIs("abcdef", "l4l2r1", 2, 0);
        playIs("abcdef", "l4l2b", 2, 0);
        playIs("abcdef", "l4l2g", 2, 0);
        playIs("abcdef", "r4r2", 2, 0);
        playIs("a", "gb", 1, 0);
        playIs("a", "bg", 1, 0);
        playIs("ab", "l1r1", 2, 0);
    }

    @Says("Promise 12: and empties the pad")
    static void playEmptiesThePad() {
        BoltTailors x = type(on("abcdef"), "l5l1");
        x.play();
        due("the pad after play() of none", x.clear(), 0);
        type(x, "l1l5l1").play();
        due("the pad after play() of one", x.clear(), 0);
        type(x, "r2").play();
        due("the pad after play() of all", x.clear(), 0);
        due("play() once more", x.play(), NOT_POSSIBLE);
    }

    @Says("Promise 12: This is one change, also if none is made.")
    static void playIsOneChange() {
        BoltTailors x = pad("l1r1l1r1l1r1");
        due("play() of six", x.play(), 6);
        due("states", x.count(13), 1);
        due("undo()", x.undo(), 0);
        due("cuts so far", x.count(5), 0);
        type(x, "l5").play();
        due("states after play() of none", x.count(13), 1);
        x = emptied();
        due("play(), over", type(x, "b").play(), 0);
        due("states after it", x.count(13), 3);
        due("undo()", x.undo(), 2);
    }

    @Says("Promise 12: Returns how many cuts are made")
    static void playOfNoneToTwenty() {
        BoltTailors x = on("a*20", 1, 0, 0);
        due("play() of thirty, twenty are possible", type(x, repeat("l1r1", 15)).play(), 20);
        due("pieces of 0", x.coat(0, 1), 10);
        due("pieces of 1", x.coat(1, 1), 10);
        due("play() of none", type(x, "l1").play(), 0);
        x.again();
        due("play() of sixty", type(x, repeat("b", 60)).play(), 20);
        due("play() of one", type(on("a*20"), "r4").play(), 1);
    }

    @Says("Promise 12: NOT_POSSIBLE if the pad has a fault, read as cuts.")
    static void playOfAFault() {
        for (String text : new String[] {"", "a", "l", "l1r", "l1r0", "l1r6", "l1x", "bgbg1", repeat("b", 59) + "l"}) {
            BoltTailors x = cuts(pad(text), "l1");
            String before = all(x);
            refused("play() of \"" + text + "\"", x, x.play(), NOT_POSSIBLE, before);
            due("the pad's length", x.clear(), text.length());
        }
        due("play() of b, a bolt too", pad("b").play(), 1);
    }

    // ---- promise 13

    @Says("Promise 13: `stripe`: from 0")
    static void stripeFromZero() {
        BoltTailors x = on("fab");
        due("stripe(0)", x.stripe(0), 5);
        due("stripe(-1)", x.stripe(-1), INVALID);
        due("stripe(MIN)", x.stripe(MIN), INVALID);
    }

    @Says("Promise 13: Returns the colour of a stripe of the whole bolt.")
    static void stripeOfTheWholeBolt() {
        BoltTailors x = cuts(on("fedcba"), "l2r2l1r1");
        for (int i = 0; i < 6; i++) {
            due("stripe(" + i + "), nothing left", x.stripe(i), 5 - i);
        }
    }

    @Says("Promise 13: INVALID_ARGUMENT if there is no such stripe.")
    static void stripeThatIsNotThere() {
        due("stripe(11)", new BoltTailors().stripe(11), 2);
        due("stripe(12)", new BoltTailors().stripe(12), INVALID);
        for (int stripes = 1; stripes <= 20; stripes++) {
            BoltTailors x = on("f*20");
            type(x, "ab*" + stripes).load();
            due("the last of " + stripes, x.stripe(stripes - 1), (stripes - 1) % 2);
            due("one more than " + stripes, x.stripe(stripes), INVALID);
            due("stripe(20)", x.stripe(20), INVALID);
            due("stripe(MAX)", x.stripe(MAX), INVALID);
        }
    }

    // ---- promise 14

    @Says("Promise 14: `tailor`: 0 or 1")
    static void coatOfTailors() {
        BoltTailors x = cuts(on("abc"), "l2l1");
        for (int tailor : new int[] {MIN, -2, -1, 2, 3, MAX}) {
            for (int what = -1; what <= 6; what++) {
                due("coat(" + tailor + ", " + what + ")", x.coat(tailor, what), INVALID);
            }
        }
        due("coat(0, 2)", x.coat(0, 2), 2);
        due("coat(1, 2)", x.coat(1, 2), 1);
    }

    @Says("Promise 14: Returns the number; INVALID_ARGUMENT.")
    static void coatOfNumbers() {
        for (int tailor = 0; tailor <= 1; tailor++) {
            for (int what : new int[] {MIN, -1, 6, 7, MAX}) {
                due("coat(" + tailor + ", " + what + ")", new BoltTailors().coat(tailor, what), INVALID);
            }
        }
        BoltTailors x = on("a*20", 5, 9, 9);
        cuts(x, "l5l5l5l5");
        int[] want = {14 + 23, 2, 10, 0, 1, 2};
        for (int what = 0; what <= 5; what++) {
            due("coat(0, " + what + ")", x.coat(0, what), want[what]);
            due("coat(1, " + what + ")", x.coat(1, what), want[what]);
        }
    }

    @Says("Promise 14: 3: the colour of its last stripe, NOT_FOUND without a piece")
    static void coatWithoutAPiece() {
        BoltTailors x = on("af");
        due("coat(0, 3) without a piece", x.coat(0, 3), NONE);
        due("coat(1, 3) without a piece", x.coat(1, 3), NONE);
        cuts(x, "l1");
        due("coat(0, 3) of a", x.coat(0, 3), 0);
        due("coat(1, 3) without a piece yet", x.coat(1, 3), NONE);
        cuts(x, "l1");
        due("coat(1, 3) of f", x.coat(1, 3), 5);
        x.undo();
        due("coat(1, 3) after undo()", x.coat(1, 3), NONE);
        x.again();
        due("coat(0, 3) after again()", x.coat(0, 3), NONE);
        due("coat(0, 3) of the rightmost stripe", cuts(on("abc"), "r2").coat(0, 3), 2);
    }

    @Says("Promise 14: 4: matches that were paid; 5: folds that were paid")
    static void coatOfMatchesAndFolds() {
        BoltTailors x = on("aacaab", 2, 3, 2);
        int[][] want = {{0, 1, 0, 0}, {0, 1, 0, 0}, {1, 2, 0, 0}, {1, 2, 0, 0}};
        String cuts = "l2l1l2l1";
        for (int cut = 0; cut < 4; cut++) {
            cuts(x, cuts.substring(2 * cut, 2 * cut + 2));
            int[] got = {x.coat(0, 4), x.coat(0, 5), x.coat(1, 4), x.coat(1, 5)};
            for (int i = 0; i < 4; i++) {
                due("coat(" + i / 2 + ", " + (4 + i % 2) + ") after " + (cut + 1), got[i], want[cut][i]);
            }
        }
        due("a stripe is no fold", cuts(on("aaa", 1, 9, 9), "l1l1l1").coat(0, 5), 0);
        due("but a match", cuts(on("aaa", 1, 9, 9), "l1l1l1").coat(0, 4), 1);
    }

    @Says("Promise 14: (also if MATCH or FOLD was 0 then)")
    static void coatOfMatchesAndFoldsForNothing() {
        BoltTailors x = cuts(on("acaa", 4, 0, 0), "l1l1l2");
        due("coat(0, 0)", x.coat(0, 0), 3);
        due("coat(0, 4)", x.coat(0, 4), 1);
        due("coat(0, 5)", x.coat(0, 5), 1);
        x.set(FOLD, 9);
        x.set(MATCH, 9);
        due("coat(0, 0) with other settings", x.coat(0, 0), 3);
        due("coat(0, 4) with other settings", x.coat(0, 4), 1);
        x = cuts(on("acaa", 4, 0, 9), "l1l1l2");
        due("coat(0, 5) at FOLD 0", x.coat(0, 5), 1);
        x = cuts(on("acaa", 4, 9, 0), "l1l1l2");
        due("coat(0, 4) at MATCH 0", x.coat(0, 4), 1);
    }

    // ---- promise 15

    @Says("Promise 15: `tailor`: 0 or 1")
    static void pieceOfTailors() {
        BoltTailors x = cuts(on("abc"), "l2l1");
        for (int tailor : new int[] {MIN, -1, 2, MAX}) {
            for (int what = 0; what <= 3; what++) {
                due("piece(" + tailor + ", 0, " + what + ")", x.piece(tailor, 0, what), INVALID);
            }
        }
        due("piece(0, 0, 1)", x.piece(0, 0, 1), 2);
        due("piece(1, 0, 1)", x.piece(1, 0, 1), 1);
    }

    @Says("Promise 15: `piece`: from 0, in the order in which they were sewn on")
    static void pieceFromZero() {
        BoltTailors x = cuts(on("abcdef"), "l1r1r2l1l1");
        due("piece(0, 0, 0)", x.piece(0, 0, 0), 0);
        due("piece(0, 1, 0)", x.piece(0, 1, 0), 3);
        due("piece(0, 2, 0)", x.piece(0, 2, 0), 2);
        due("piece(1, 0, 0)", x.piece(1, 0, 0), 5);
        due("piece(1, 1, 0)", x.piece(1, 1, 0), 1);
    }

    @Says("Promise 15: 0: its first stripe (its number in the bolt as it was cut)")
    static void pieceAsItWasCut() {
        BoltTailors x = cuts(on("abcdef"), "r2l1");
        x.mirror();
        due("piece(0, 0, 0) after mirror()", x.piece(0, 0, 0), 4);
        due("piece(1, 0, 0) after mirror()", x.piece(1, 0, 0), 0);
        cuts(x, "l1r2");
        due("piece(0, 1, 0)", x.piece(0, 1, 0), 1);
        due("piece(1, 1, 0)", x.piece(1, 1, 0), 2);
        x = on("a*20", 1, 0, 0);
        x.cut(1, RIGHT);
        due("the number of the twentieth stripe", x.piece(0, 0, 0), 19);
    }

    @Says("Promise 15: 1: how many stripes it has; 2: what it was worth")
    static void pieceOfOneToFive() {
        for (int size = 1; size <= 5; size++) {
            BoltTailors x = on("aaaaab", 5, 9, 9);
            x.cut(size, LEFT);
            due("piece(0, 0, 1)", x.piece(0, 0, 1), size);
            due("piece(0, 0, 2)", x.piece(0, 0, 2), size == 1 ? 1 : size + 9);
        }
        BoltTailors x = cuts(on("acaaaaa", 5, 9, 9), "l1l1r5");
        due("the greatest worth", x.piece(0, 1, 2), 23);
    }

    @Says("Promise 15: 3: 1 if it came from the left end, otherwise 0")
    static void pieceFromWhichEnd() {
        BoltTailors x = cuts(on("aabcc"), "l2r2l1");
        due("piece(0, 0, 3), a fold", x.piece(0, 0, 3), 1);
        due("piece(1, 0, 3), a fold", x.piece(1, 0, 3), 0);
        due("piece(0, 1, 3), all from the left", x.piece(0, 1, 3), 1);
        due("all from the right", cuts(on("a"), "r1").piece(0, 0, 3), 0);
        due("a match from the right", cuts(on("aca"), "l1l1r1").piece(0, 1, 3), 0);
        due("a match from the left", cuts(on("aca"), "l1l1l1").piece(0, 1, 3), 1);
    }

    @Says("Promise 15: INVALID_ARGUMENT (also if piece is below 0)")
    static void pieceBelowZero() {
        for (BoltTailors x : new BoltTailors[] {new BoltTailors(), cuts(new BoltTailors(), "l1l1")}) {
            for (int piece : new int[] {MIN, -2, -1}) {
                due("piece(0, " + piece + ", 0)", x.piece(0, piece, 0), INVALID);
                due("piece(1, " + piece + ", 3)", x.piece(1, piece, 3), INVALID);
            }
            for (int what : new int[] {MIN, -1, 4, 5, MAX}) {
                due("piece(0, 0, " + what + ")", x.piece(0, 0, what), INVALID);
                due("piece(1, 99, " + what + ")", x.piece(1, 99, what), INVALID);
            }
        }
    }

    @Says("Promise 15: NOT_FOUND if there are not so many pieces.")
    static void pieceThatIsNotThere() {
        BoltTailors x = on("a*20", 1, 0, 0);
        for (int cut = 0; cut <= 20; cut++) {
            int[] pieces = {(cut + 1) / 2, cut / 2};
            for (int tailor = 0; tailor <= 1; tailor++) {
                due("piece(" + tailor + ", " + pieces[tailor] + ", 1) after " + cut, x.piece(tailor, pieces[tailor], 1), NONE);
                if (pieces[tailor] > 0) {
                    due("the last piece of " + tailor + " after " + cut, x.piece(tailor, pieces[tailor] - 1, 1), 1);
                }
            }
            x.cut(1, LEFT);
        }
        due("piece(0, MAX, 0)", x.piece(0, MAX, 0), NONE);
        due("piece(1, MAX, 3)", x.piece(1, MAX, 3), NONE);
        due("piece(1, 1 << 30, 3)", x.piece(1, 1 << 30, 3), NONE);
        x.undo();
        due("piece(1, 9, 0) after undo()", x.piece(1, 9, 0), NONE);
        x.again();
        due("piece(0, 0, 0) after again()", x.piece(0, 0, 0), NONE);
    }

    // ---- promise 16

    @Says("Promise 16: Returns the number; INVALID_ARGUMENT.")
    static void countOfZeroToThirteen() {
        for (int what : new int[] {MIN, -4, -1, 14, 15, MAX}) {
            due("count(" + what + ")", new BoltTailors().count(what), INVALID);
            due("count(" + what + "), over", emptied().count(what), INVALID);
        }
        due("count(0)", new BoltTailors().count(0), 12);
        due("count(13)", emptied().count(13), 2);
    }

    @Says("Promise 16: 0: stripes of the whole bolt; 1: stripes that are left")
    static void countOfStripes() {
        for (String bolt : new String[] {"a", "ab", TWENTY}) {
            BoltTailors x = on(bolt);
            for (int left = bolt.length(); left >= 0; left--) {
                due("count(0)", x.count(0), bolt.length());
                due("count(1)", x.count(1), left);
                x.cut(1, left % 2 == 0);
            }
        }
    }

    @Says("Promise 16: 2: the first stripe that is left, 3: the last one, NOT_FOUND for both if nothing is left")
    static void countOfFirstAndLast() {
        BoltTailors x = on("abc");
        due("count(2)", x.count(2), 0);
        due("count(3)", x.count(3), 2);
        cuts(x, "r1r1");
        due("count(2) of one", x.count(2), 0);
        due("count(3) of one", x.count(3), 0);
        cuts(x, "r1");
        due("count(2) of none", x.count(2), NONE);
        due("count(3) of none", x.count(3), NONE);
        x = cuts(on("abc"), "l3");
        due("count(2), all from the left", x.count(2), NONE);
        due("count(3), all from the left", x.count(3), NONE);
        x.undo();
        due("count(2) after undo()", x.count(2), 0);
    }

    @Says("Promise 16: 4: the tailor on turn, NOT_FOUND if the game is over")
    static void countOfTheTailorOnTurn() {
        BoltTailors x = on("abc");
        due("count(4)", x.count(4), 0);
        cuts(x, "l1");
        due("count(4) after one", x.count(4), 1);
        cuts(x, "l1");
        due("count(4) after two", x.count(4), 0);
        cuts(x, "l1");
        due("count(4), over", x.count(4), NONE);
        due("count(4), over after two", cuts(on("ab"), "l1l1").count(4), NONE);
        x.again();
        due("count(4) after again()", x.count(4), 0);
    }

    @Says("Promise 16: 5: cuts so far in this game")
    static void countOfCuts() {
        BoltTailors x = on("a*20", 1, 0, 0);
        for (int cut = 0; cut <= 20; cut++) {
            due("count(5)", x.count(5), cut);
            x.cut(1, RIGHT);
        }
        due("count(5), over", x.count(5), 20);
        x.undo();
        due("count(5) after undo()", x.count(5), 19);
        x.again();
        due("count(5) after again()", x.count(5), 0);
        type(cuts(x, "l1"), "ab").load();
        due("count(5) after load()", x.count(5), 0);
        due("count(5) after errors", x.cut(9, LEFT) + x.count(5), INVALID);
    }

    @Says("Promise 16: 6: how many stripes of what is left have another colour than the one ahead of them")
    static void countOfChanges() {
        due("of nothing", emptied().count(6), 0);
        due("of one", on("a").count(6), 0);
        due("of two alike", on("aa").count(6), 0);
        due("of two others", on("ab").count(6), 1);
        due("of twenty", on("ab*20").count(6), 19);
        due("of twenty alike", on("a*20").count(6), 0);
        // what was cut is not ahead of what is left
        due("behind a cut", cuts(on("abbc"), "l1").count(6), 1);
        due("ahead of a cut", cuts(on("abbc"), "r1").count(6), 1);
        due("of one between cuts", cuts(on("abc"), "l1r1").count(6), 0);
    }

    @Says("Promise 16: 7: how many different colours are left")
    static void countOfColours() {
        due("of nothing", emptied().count(7), 0);
        for (int colours = 1; colours <= 6; colours++) {
            due("of " + colours, on("fedcba".substring(6 - colours) + "*20").count(7), colours);
        }
        due("of one stripe each", on("abcdef").count(7), 6);
        due("of one stripe", on("f").count(7), 1);
        due("without the cut ones", cuts(on("abbc"), "l1r1").count(7), 1);
        due("with one of two", cuts(on("abba"), "l1").count(7), 2);
    }

    @Says("Promise 16: 8: the longest row of stripes of what is left that is the same from the left and from the right, 0 if nothing is left")
    static void countOfTheLongestFold() {
        due("of nothing", emptied().count(8), 0);
        due("of one", on("a").count(8), 1);
        due("without a fold", on("abcdef").count(8), 1);
        due("of two", on("abccd").count(8), 2);
        due("at the left end", on("aabcd").count(8), 2);
        due("at the right end", on("abcdd").count(8), 2);
        due("of three", on("abcbd").count(8), 3);
        due("of all, odd", on("ab*19").count(8), 19);
        due("of all, even", on("a*20").count(8), 20);
        due("of all but one", on("ab*20").count(8), 19);
        due("without the cut ones", cuts(on("abcba"), "l1").count(8), 3);
        due("without the cut ones", cuts(on("abcba"), "r1l1").count(8), 3);
        due("more than LONGEST", on("abcdedcba", 1, 3, 2).count(8), 9);
    }

    @Says("Promise 16: 9 to 11: the settings 0 to 2")
    static void countOfSettings() {
        BoltTailors x = new BoltTailors();
        x.set(LONGEST, 5);
        x.set(FOLD, 9);
        x.set(MATCH, 0);
        due("count(9)", x.count(9), 5);
        due("count(10)", x.count(10), 9);
        due("count(11)", x.count(11), 0);
    }

    @Says("Promise 16: 12: the length of the pad; 13: states in the history")
    static void countOfThePadAndOfStates() {
        BoltTailors x = new BoltTailors();
        due("count(12), empty", x.count(12), 0);
        due("count(13), none", x.count(13), 0);
        type(x, repeat("b", 60));
        x.append('b');
        due("count(12), full", x.count(12), 60);
        for (int i = 0; i < 5; i++) {
            x.again();
        }
        due("count(13), full", x.count(13), 4);
        x.undo();
        due("count(13) after undo()", x.count(13), 3);
        x.clear();
        due("count(12), cleared", x.count(12), 0);
    }

    // ---- promise 17

    @Says("Promise 17: `colour`: 0 to 5")
    static void leftOfColours() {
        for (int colour : new int[] {MIN, -1, 6, 7, MAX}) {
            due("left(" + colour + ")", new BoltTailors().left(colour), INVALID);
            due("left(" + colour + "), over", emptied().left(colour), INVALID);
        }
        due("left(0)", on("a*20").left(0), 20);
        due("left(5)", on("f*20").left(5), 20);
    }

    @Says("Promise 17: Returns how many stripes of a colour are left.")
    static void leftOfNoneToTwenty() {
        BoltTailors x = on("fa*20");
        for (int left = 20; left > 0; left -= 2) {
            due("left(0)", x.left(0), left / 2);
            due("left(5)", x.left(5), left / 2);
            due("left(1)", x.left(1), 0);
            cuts(x, "l1r1");
        }
        for (int colour = 0; colour <= 5; colour++) {
            due("left(" + colour + ") of nothing", x.left(colour), 0);
        }
        x.again();
        due("left(0) again", x.left(0), 10);
    }

    // ---- promises 18 and 20

    private static int told(BoltTailors x, boolean lead, int size, boolean end) {
        return lead ? x.leadWith(size, end) : x.worth(size, end);
    }

    private static void errorsOfCut(boolean lead) {
        BoltTailors x = on("abcabcabc", 5, 3, 2);
        String before = all(x);
        for (boolean end : BOTH_ENDS) {
            for (int size : NO_SIZES) {
                due("of " + size, told(x, lead, size, end), INVALID);
                due("of " + size + ", over", told(emptied(), lead, size, end), INVALID);
            }
            for (int longest = 1; longest <= 5; longest++) {
                BoltTailors y = on("abcabcabc", longest, 3, 2);
                due("of LONGEST " + longest, told(y, lead, longest, end) >= 0 ? 1 : 0, 1);
                due("of one more than " + longest, told(y, lead, longest + 1, end), longest == 5 ? INVALID : NOT_POSSIBLE);
            }
            for (int stripes = 1; stripes <= 4; stripes++) {
                BoltTailors y = on("abcd".substring(0, stripes), 5, 3, 2);
                due("of all " + stripes, told(y, lead, stripes, end), lead ? 1000 + stripes : stripes);
                due("of one more than " + stripes, told(y, lead, stripes + 1, end), NOT_POSSIBLE);
            }
            for (int size = 1; size <= 5; size++) {
                due("of " + size + ", over", told(emptied(), lead, size, end), NOT_POSSIBLE);
            }
        }
        same("state after all", all(x), before);
    }

    @Says("Promise 18: the errors of cut().")
    static void worthHasTheErrorsOfCut() {
        errorsOfCut(false);
    }

    @Says("Promise 20: the errors of cut().")
    static void leadWithHasTheErrorsOfCut() {
        errorsOfCut(true);
    }

    @Says("Promise 18: Tells what a cut would be worth.")
    static void worthIsWhatCutAnswers() {
        for (int size = 1; size <= 5; size++) {
            for (boolean end : BOTH_ENDS) {
                BoltTailors x = cuts(on("acaaaaab", 5, 9, 9), "l1l1");
                String before = all(x);
                int worth = x.worth(size, end);
                same("state after worth()", all(x), before);
                due("cut(" + size + ", " + end + ")", x.cut(size, end), worth);
            }
        }
        BoltTailors x = cuts(on("acaaaaab", 5, 9, 9), "l1l1");
        due("the greatest worth", x.worth(5, LEFT), 23);
        due("the least one", x.worth(1, RIGHT), 1);
        due("without a piece", on("aab", 1, 9, 9).worth(1, LEFT), 1);
    }

    /** The best cut is the first one, in the document's order, with the greatest lead. */
    private static void leadsOfEachCut(BoltTailors x, String what) {
        int most = MIN;
        int best = 0;
        for (boolean end : BOTH_ENDS) {
            for (int size = 1; size <= 4; size++) {
                int lead = x.leadWith(size, end);
                best = lead > most ? (end ? size : size + 10) : best;
                most = Math.max(most, lead);
                int worth = x.cut(size, end);
                due("the lead of " + size + ", " + end + " on " + what, worth - (x.lead(0) - 1000), lead - 1000);
                due("the lead of " + size + ", " + end + " on " + what, worth - (x.lead(1) - 1000), lead - 1000);
                x.undo();
            }
        }
        leadsAre(x, most);
        due("bestCut() of " + what, x.bestCut(), best);
    }

    @Says("Promise 20: Returns 1000 and the lead that the tailor on turn can be sure of with this cut")
    static void leadWithBehindEachCut() {
        for (String bolt : new String[] {"acaabaaaab", "abcabcabc", "abbaabab"}) {
            for (String cut : new String[] {"", "l1", "r1", "l1l1", "l1r1", "r1l1", "l1l1r1", "r1r1r1", "l1r1l1r1"}) {
                leadsOfEachCut(cuts(on(bolt, 4, 2, 3), cut), bolt + " after " + cut);
            }
        }
        due("leadWith() of all that is left", on("aaaaa", 5, 9, 9).leadWith(5, RIGHT), 1014);
        due("leadWith() below 1000", on("baaaaa", 5, 9, 9).leadWith(1, LEFT), 987);
    }

    // ---- promise 19

    @Says("Promise 19: `way`: 0: told by all rows of stripes that can be left, the short ones first; 1: told from what is left now on")
    static void leadOfTwoWays() {
        for (int way : new int[] {MIN, -1, 2, 3, MAX}) {
            due("lead(" + way + ")", new BoltTailors().lead(way), INVALID);
            due("lead(" + way + "), over", emptied().lead(way), INVALID);
        }
        due("lead(0)", new BoltTailors().lead(0), 1004);
        due("lead(1)", new BoltTailors().lead(1), 1004);
    }

    private static void leadsAre(BoltTailors x, int want) {
        for (int way = 0; way <= 1; way++) {
            due("lead(" + way + ")", x.lead(way), want);
        }
    }

    @Says("Promise 19: Returns 1000 and the lead")
    static void leadsOfOneToTwentyStripes() {
        leadsAre(on("a"), 1001);
        leadsAre(on("aaaaa", 5, 9, 9), 1014);
        leadsAre(on("a*20", 5, 9, 9), 1018);
        leadsAre(on("a*20", 5, 0, 0), 1000);
        leadsAre(on("a*20", 1, 9, 9), 1000);
        leadsAre(cuts(on("aabaaaaab", 5, 9, 9), "l1"), 991);
        leadsAre(cuts(on("aca", 1, 9, 9), "l1l1"), 1010);
        leadsAre(cuts(on("acb", 1, 9, 9), "l1l1"), 1001);
        for (int place = 0; place < 20; place++) {
            leadsAre(leftAt(place, 1), 1001);
            if (place < 19) {
                leadsAre(leftAt(place, 2), 1011);
            }
        }
    }

    /** A bolt of twenty stripes of which some are left, from a place on. */
    private static BoltTailors leftAt(int place, int stripes) {
        BoltTailors x = cuts(on("a*20", 1, 9, 0), repeat("l1", place) + repeat("r1", 20 - stripes - place));
        x.set(LONGEST, 2);
        return x;
    }

    @Says("Promise 19: (the same for both; 1000 if the game is over)")
    static void leadsAreTheSameForBoth() {
        leadsAre(emptied(), 1000);
        leadsAre(cuts(on("a"), "r1"), 1000);
        String[] bolts = {TWENTY, "ab*20", "a*20", "abacabadabacabadabac", "fedcbaabcdef", "aabbccddeeff"};
        for (String bolt : bolts) {
            BoltTailors x = on(bolt, 5, 9, 9);
            while (x.count(1) > 0) {
                due("lead(0) on " + bolt, x.lead(0), x.lead(1));
                x.cut(1, x.count(1) % 3 == 0);
            }
            leadsAre(x, 1000);
        }
    }

    @Says("Promise 19: and what was told once is kept")
    static void whatIsKeptIsForThisBoltAndTheseSettings() {
        BoltTailors x = on("aba", 1, 0, 9);
        for (int way = 0; way <= 1; way++) {
            due("lead(" + way + ")", x.lead(way), 1001);
            due("lead(" + way + ") once more", x.lead(way), 1001);
            x.set(LONGEST, 3);
            due("lead(" + way + ") at another LONGEST", x.lead(way), 1003);
            x.set(FOLD, 9);
            due("lead(" + way + ") at another FOLD", x.lead(way), 1012);
            x.undo();
            x.undo();
            due("lead(" + way + ") after undo()", x.lead(way), 1001);
            cuts(x, "l1l1");
            due("lead(" + way + ") of a match", x.lead(way), 1010);
            x.set(MATCH, 0);
            due("lead(" + way + ") at another MATCH", x.lead(way), 1001);
            x.undo();
            x.undo();
            x.undo();
            type(x, "abb").load();
            due("lead(" + way + ") of another bolt", x.lead(way), on("abb", 1, 0, 9).lead(way));
            x.undo();
            due("lead(" + way + ") of the bolt before", x.lead(way), 1001);
        }
        x = on("aab", 2, 3, 2);
        String[] bolts = {"aab", "bca", "aab", "cab", "abc", "abcba", "abcbb", "abc", "abcb"};
        int[] leads = {1004, 1001, 1004, 1001, 1001, 1001, 1004, 1001, 1000};
        for (int i = 0; i < bolts.length; i++) {
            type(x, bolts[i]).load();
            leadsAre(x, leads[i]);
        }
        type(x, "aab").load();
        leadsAre(x, 1004);
        x.set(LONGEST, 3);
        x.set(FOLD, 4);
        x.set(MATCH, 3);
        leadsAre(x, 1005);
        x = on("acaaa", 2, 3, 2);
        cuts(x, "l1");
        leadsAre(x, 1003);
        x.mirror();
        leadsAre(x, 1001);
        x.save();
        x.mirror();
        leadsAre(x, 1003);
        x.restore();
        leadsAre(x, 1001);
    }

    @Says("Promise 19: told by all rows of stripes that can be left, the short ones first")
    static void whatIsKeptOfShortRowsIsOfUseForLongOnes() {
        for (String bolt : new String[] {"abcabcabcabc", "aabaabcbbaca", "abacabadabacabadabac"}) {
            int whole = on(bolt, 3, 5, 2).lead(1);
            for (String cut : new String[] {"r3r3r3", "l3l3l3", "r3l3r2", "r3r3r3r2"}) {
                for (int way = 0; way <= 1; way++) {
                    BoltTailors x = cuts(on(bolt, 3, 5, 2), cut);
                    due("lead(" + way + ") after " + cut, x.lead(way), x.lead(1 - way));
                    x.again();
                    due("lead(" + way + ") of all of " + bolt + " after " + cut, x.lead(way), whole);
                    x.cut(2, LEFT);
                    due("lead(" + way + ") of another row", x.lead(way), x.lead(1 - way));
                }
            }
        }
    }

    // ---- promise 21

    @Says("Promise 21: Returns how many stripes, and 10 more if from the right")
    static void bestCutOfOneToFifteen() {
        String[] left = {"a", "aa", "aaa", "aaaa", "aaaaa"};
        for (int size = 1; size <= 5; size++) {
            due("bestCut() of " + left[size - 1], on(left[size - 1], 5, 9, 0).bestCut(), size);
        }
        String[] right = {"abb", "aaba", "aabba", "aaabaa"};
        for (int size = 2; size <= 5; size++) {
            due("bestCut() of " + right[size - 2], on(right[size - 2], 5, 9, 0).bestCut(), 10 + size);
        }
        due("bestCut() of ababa", on("ababa", 2, 3, 2).bestCut(), 11);
    }

    @Says("Promise 21: NOT_POSSIBLE if the game is over.")
    static void bestCutAtTheEnd() {
        BoltTailors x = cuts(on("abc"), "l1r1");
        due("bestCut() of one", x.bestCut(), 1);
        cuts(x, "l1");
        String before = all(x);
        refused("bestCut(), over", x, x.bestCut(), NOT_POSSIBLE, before);
    }

    // ---- promise 22

    @Says("Promise 22: `zero`: what the tailor 0 would do: 0 best cuts, 1 cuts by greed")
    static void endedOfZero() {
        for (int zero : new int[] {MIN, -1, 2, MAX}) {
            for (int what = 0; what <= 2; what++) {
                due("ended(" + zero + ", 0, " + what + ")", new BoltTailors().ended(zero, 0, what), INVALID);
                due("ended(" + zero + ", 1, " + what + "), over", emptied().ended(zero, 1, what), INVALID);
            }
        }
        due("ended(0, 1, 0)", on("aabb", 3, 3, 2).ended(0, 1, 0), 3);
        due("ended(1, 0, 0)", on("aabb", 3, 3, 2).ended(1, 0, 0), 5);
    }

    @Says("Promise 22: `one`: what the tailor 1 would do, likewise")
    static void endedOfOne() {
        for (int one : new int[] {MIN, -1, 2, MAX}) {
            for (int what = 0; what <= 2; what++) {
                due("ended(0, " + one + ", " + what + ")", new BoltTailors().ended(0, one, what), INVALID);
                due("ended(1, " + one + ", " + what + "), over", emptied().ended(1, one, what), INVALID);
            }
        }
        due("ended(0, 1, 1)", cuts(on("faabb", 3, 3, 2), "l1").ended(0, 1, 1), 5);
        due("ended(1, 0, 1)", cuts(on("faabb", 3, 3, 2), "l1").ended(1, 0, 1), 3);
    }

    @Says("Promise 22: `what`: 0: the worth of the coat of the tailor 0 at the end; 1: of the tailor 1; 2: how many cuts there would be from now on")
    static void endedOfThreeNumbers() {
        for (int what : new int[] {MIN, -1, 3, MAX}) {
            due("ended(0, 0, " + what + ")", new BoltTailors().ended(0, 0, what), INVALID);
            due("ended(1, 1, " + what + "), over", emptied().ended(1, 1, what), INVALID);
        }
        BoltTailors x = cuts(on("aabcc", 2, 3, 2), "l2l1");
        String before = all(x);
        due("ended(0, 0, 0), with what was cut", x.ended(0, 0, 0), 10);
        due("ended(0, 0, 1), with what was cut", x.ended(0, 0, 1), 1);
        due("ended(0, 0, 2), without the cuts so far", x.ended(0, 0, 2), 1);
        same("state after it", all(x), before);
    }

    @Says("Promise 22: Tells what a whole game would end in, from now on.")
    static void endedOfNoneToTwentyCuts() {
        BoltTailors x = on("ab*20", 1, 9, 0);
        for (int cut = 0; cut <= 20; cut++) {
            for (int who = 0; who < 4; who++) {
                due("ended(.., 2) after " + cut, x.ended(who / 2, who % 2, 2), 20 - cut);
                due("ended(.., 0) after " + cut, x.ended(who / 2, who % 2, 0), 10);
                due("ended(.., 1) after " + cut, x.ended(who / 2, who % 2, 1), 10);
            }
            x.cut(1, RIGHT);
        }
        due("ended(0, 0, 0) of one stripe", on("a").ended(0, 0, 0), 1);
        due("ended(1, 1, 1) of one stripe", on("a").ended(1, 1, 1), 0);
        due("ended(0, 1, 2) of one stripe", on("a").ended(0, 1, 2), 1);
    }

    // ---- promise 23

    @Says("Promise 23: 0.0 without any.")
    static void rateWithoutAny() {
        BoltTailors x = on("aab");
        due("rate() of a new game", x.rate(), 0.0);
        x.cut(2, LEFT);
        due("rate() of one piece", x.rate(), 2.5);
        x.undo();
        due("rate() after undo()", x.rate(), 0.0);
        x.cut(1, RIGHT);
        x.again();
        due("rate() after again()", x.rate(), 0.0);
    }

    @Says("Promise 23: as a double, divided by the number of their stripes")
    static void rateOfBothCoats() {
        due("rate() of five thirds", cuts(on("abaf"), "l1r1l2").rate() * 4, 4.0);
        due("rate() of both", cuts(on("aabcc"), "l2l1r2").rate(), 11.0 / 5);
        due("rate() of a third", cuts(on("aaab", 3, 4, 0), "l3").rate(), 7.0 / 3);
        due("the greatest one", cuts(on("aaaaaa", 1, 9, 9), "l1l1l1").rate(), 12.0 / 3);
        due("the least one", cuts(on("f"), "l1").rate(), 1.0);
        due("rate() of all twenty", cuts(on("a*20", 5, 9, 9), "l5l5l5l5").rate(), 74.0 / 20);
    }

    // ---- promise 24

    @Says("Promise 24: everything but the pad and the snapshot is as it was before it")
    static void undoOfTheLatestChange() {
        BoltTailors x = cuts(on("abcab", 3, 7, 6), "l1r1");
        String before = looks(x);
        x.save();
        cuts(x, "l3");
        type(x, "abc");
        due("undo(), over", x.undo(), 3);
        same("state then", looks(x), before);
        due("the pad", x.count(12), 3);
        x.again();
        x.save();
        x.undo();
        same("state then", looks(x), before);
        due("the snapshot is the latest one", x.restore(), 5);
        type(x, "~");
        x.clear();
        x.undo();
        due("the pad stays empty", x.count(12), 0);
        same("state then", looks(x), before);
        x = cuts(on("aabaa"), "l2");
        before = looks(x);
        x.again();
        cuts(x, "r1");
        x.undo();
        x.undo();
        same("the pieces that others were sewn in place of", looks(x), before);
    }

    @Says("Promise 24: Returns how many states the history has then")
    static void undoReturnsTheStates() {
        BoltTailors x = new BoltTailors();
        for (int changes = 1; changes <= 6; changes++) {
            for (int i = 0; i < changes; i++) {
                x.mirror();
            }
            for (int states = Math.min(changes, 4) - 1; states >= 0; states--) {
                due("undo()", x.undo(), states);
                due("count(13)", x.count(13), states);
            }
            due("undo() of none", x.undo(), NOT_POSSIBLE);
        }
    }

    @Says("Promise 24: NOT_POSSIBLE if it has none.")
    static void undoOfNone() {
        BoltTailors x = new BoltTailors();
        String before = all(x);
        refused("undo(), new", x, x.undo(), NOT_POSSIBLE, before);
        x.save();
        type(x, "ab").clear();
        refused("undo() of no change", x, x.undo(), NOT_POSSIBLE, before);
        x.cut(1, LEFT);
        due("undo()", x.undo(), 0);
        refused("undo() once more", x, x.undo(), NOT_POSSIBLE, before);
        x.cut(9, LEFT);
        refused("undo() behind an error", x, x.undo(), NOT_POSSIBLE, before);
    }

    // ---- promises 25 and 26

    @Says("Promise 25: Takes a snapshot of everything but the pad and the history, in place of the one that was.")
    static void saveInPlaceOfTheOneThatWas() {
        BoltTailors x = new BoltTailors();
        x.save();
        type(x, "fed").load();
        x.set(FOLD, 8);
        cuts(x, "l1");
        String kept = looks(x);
        x.save();
        due("states, no change", x.count(13), 3);
        type(x, "zz");
        x.again();
        x.set(FOLD, 0);
        due("restore()", x.restore(), 2);
        same("state then", looks(x), kept);
        due("the pad is not of the snapshot", x.count(12), 2);
        due("the history is not of the snapshot", x.count(13), 4);
        due("undo()", x.undo(), 3);
        due("FOLD", x.count(10), 0);
    }

    @Says("Promise 25: Returns how many stripes are left.")
    static void saveReturnsWhatIsLeft() {
        BoltTailors x = on(TWENTY, 1, 3, 2);
        for (int left = 20; left >= 0; left--) {
            due("save()", x.save(), left);
            x.cut(1, LEFT);
        }
    }

    @Says("Promise 26: Restores the snapshot, which stays.")
    static void restoreTwice() {
        BoltTailors x = cuts(on("abcabc", 3, 7, 6), "l1r2");
        x.mirror();
        String kept = looks(x);
        x.save();
        for (int times = 0; times < 3; times++) {
            cuts(x, "l1");
            x.mirror();
            x.set(MATCH, times);
            type(x, "ab").load();
            due("restore()", x.restore(), 3);
            same("state then", looks(x), kept);
        }
        x.undo();
        x.undo();
        due("restore() after undo()", x.restore(), 3);
        same("state then", looks(x), kept);
        x = cuts(on("aabaa"), "l2");
        kept = looks(x);
        x.save();
        x.again();
        cuts(x, "r1r2");
        due("restore()", x.restore(), 3);
        same("the pieces that others were sewn in place of", looks(x), kept);
    }

    @Says("Promise 26: Returns how many stripes are left then")
    static void restoreReturnsWhatIsLeft() {
        BoltTailors x = on(TWENTY, 1, 3, 2);
        for (int left = 20; left >= 0; left--) {
            x.save();
            x.again();
            due("restore()", x.restore(), left);
            due("count(1)", x.count(1), left);
            x.cut(1, RIGHT);
        }
    }

    @Says("Promise 26: NOT_POSSIBLE if there is none.")
    static void restoreOfNone() {
        BoltTailors x = cuts(pad("ab"), "l1");
        String before = all(x);
        refused("restore()", x, x.restore(), NOT_POSSIBLE, before);
        x.undo();
        due("restore() after undo()", x.restore(), NOT_POSSIBLE);
        x.save();
        due("restore() behind save()", x.restore(), 12);
        due("it is a change", x.count(13), 1);
    }
}
