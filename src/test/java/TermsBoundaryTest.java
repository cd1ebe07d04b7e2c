/** What the document's first part and its Terms say of boundary cases: a test for each of the sentences. */
public final class TermsBoundaryTest extends Checks {
    public static void main(String[] args) throws Exception {
        eachSentence(TermsBoundaryTest.class);
        end("boundaries of the Terms");
    }

    private static void loadIs(String text, int want) {
        BoltTailors x = pad(text);
        due("load() of \"" + text + "\"", x.load(), want);
        due("stripes then", x.count(0), want == NOT_POSSIBLE ? 12 : want);
    }

    private static void faultIs(int way, String text, int want) {
        due("fault(" + way + ") of \"" + text + "\"", pad(text).fault(way), want);
    }

    private static void choiceIs(String what, BoltTailors x, int best, int greedy) {
        due("bestCut() of " + what, x.bestCut(), best);
        x.best();
        due("best() of " + what, cutMade(x), best);
        x.undo();
        x.greedy();
        due("greedy() of " + what, cutMade(x), greedy);
    }

    /** The latest cut, told as bestCut() tells it. */
    private static int cutMade(BoltTailors x) {
        int tailor = (x.count(5) + 1) % 2;
        int piece = x.coat(tailor, 1) - 1;
        return x.piece(tailor, piece, 1) + (x.piece(tailor, piece, 3) == 1 ? 0 : 10);
    }

    // ---- what it is

    @Says("What it is: An object is used for at most 512 calls after it has been made")
    static void callsUpToThe512thAreAnswered() {
        BoltTailors x = new BoltTailors();
        for (int call = 1; call <= 509; call += 3) {
            due("call " + call + ", cut(3, left)", x.cut(3, LEFT), 3);
            due("call " + (call + 1) + ", lead(" + call % 2 + ")", x.lead(call % 2), 1001);
            due("call " + (call + 2) + ", undo()", x.undo(), 0);
        }
        due("call 511, lead(0)", x.lead(0), 1004);
        due("call 512, count(1)", x.count(1), 12);
        x = new BoltTailors();
        for (int call = 1; call < 512; call++) {
            due("call " + call + ", mirror()", x.mirror(), 8);
        }
        due("call 512, undo()", x.undo(), 3);
    }

    // ---- the bolt

    @Says("The bolt: A bolt has 1 to 20 stripes")
    static void boltsOfOneToTwentyStripes() {
        for (int stripes = 1; stripes <= 20; stripes++) {
            loadIs(TWENTY.substring(0, stripes), stripes);
            loadIs("ab*" + stripes, stripes);
        }
        loadIs("", NOT_POSSIBLE);
        loadIs("ab*0", NOT_POSSIBLE);
        loadIs("ab*21", NOT_POSSIBLE);
        loadIs(TWENTY + "a", NOT_POSSIBLE);
    }

    @Says("The bolt: numbered from 0 from the left to the right")
    static void stripesAreNumberedFromZero() {
        BoltTailors x = on("abcdef");
        for (int i = 0; i < 6; i++) {
            due("stripe(" + i + ")", x.stripe(i), i);
        }
        due("stripe(-1)", x.stripe(-1), INVALID);
        due("stripe(6)", x.stripe(6), INVALID);
        due("the first one's number", x.count(2), 0);
        due("the last one's number", x.count(3), 5);
        due("the number of the only one", on("f").count(3), 0);
    }

    @Says("The bolt: each has a colour, 0 to 5, written as the letters a to f")
    static void coloursAreZeroToFive() {
        BoltTailors x = on("abcdef");
        for (int colour = 0; colour <= 5; colour++) {
            due("left(" + colour + ")", x.left(colour), 1);
        }
        due("the colour of a", on("a").stripe(0), 0);
        due("the colour of f", on("f").stripe(0), 5);
        for (String sign : new String[] {"`", "g", "A", "F", "0", "5"}) {
            loadIs(sign, NOT_POSSIBLE);
            loadIs("a" + sign, NOT_POSSIBLE);
            loadIs(sign + "*3", NOT_POSSIBLE);
        }
    }

    @Says("The bolt: What is left of it are the stripes from a first one to a last one, or nothing.")
    static void whatIsLeftShrinksToNothing() {
        BoltTailors x = cuts(on("abcde"), "l2r1");
        due("the first of two", x.count(2), 2);
        due("the last of two", x.count(3), 3);
        cuts(x, "l1");
        due("the first of one", x.count(2), 3);
        due("the last of one", x.count(3), 3);
        due("stripes left", x.count(1), 1);
        cuts(x, "r1");
        due("the first of none", x.count(2), NONE);
        due("the last of none", x.count(3), NONE);
        due("stripes left", x.count(1), 0);
    }

    @Says("The bolt: At first it is the bolt \"abcabcabcabc\".")
    static void theFirstBolt() {
        BoltTailors x = new BoltTailors();
        same("the first bolt", bolt(x), "abcabcabcabc");
        due("stripe(12)", x.stripe(12), INVALID);
        due("stripes left", x.count(1), 12);
    }

    // ---- a game

    @Says("A game: The two tailors are numbered 0 and 1")
    static void tailorsAreZeroAndOne() {
        BoltTailors x = cuts(on("abc"), "l2l1");
        due("coat(-1, 2)", x.coat(-1, 2), INVALID);
        due("coat(0, 2)", x.coat(0, 2), 2);
        due("coat(1, 2)", x.coat(1, 2), 1);
        due("coat(2, 2)", x.coat(2, 2), INVALID);
    }

    @Says("A game: the tailor 0 begins, and they are on turn one after the other")
    static void tailorsTakeTurns() {
        BoltTailors x = on("a*20", 1, 0, 0);
        for (int cut = 0; cut < 20; cut++) {
            due("on turn ahead of cut " + cut, x.count(4), cut % 2);
            x.cut(1, cut % 3 == 0);
            due("pieces of that one", x.coat(cut % 2, 1), cut / 2 + 1);
        }
        due("on turn at the end", x.count(4), NONE);
        due("pieces of 0", x.coat(0, 1), 10);
        due("pieces of 1", x.coat(1, 1), 10);
    }

    @Says("A game: takes 1 to LONGEST stripes")
    static void oneToLongestStripes() {
        for (int longest = 1; longest <= 5; longest++) {
            for (int size = 1; size <= 5; size++) {
                for (boolean end : BOTH_ENDS) {
                    String call = "cut(" + size + ", " + end + ") at LONGEST " + longest;
                    due(call, on("abcdefabc", longest, 3, 2).cut(size, end), size <= longest ? size : NOT_POSSIBLE);
                }
            }
        }
    }

    @Says("A game: (no more than are left)")
    static void noMoreThanAreLeft() {
        for (int stripes = 1; stripes <= 5; stripes++) {
            for (int size = 1; size <= 5; size++) {
                for (boolean end : BOTH_ENDS) {
                    BoltTailors x = on("f" + "abcde".substring(0, stripes), 5, 3, 2);
                    x.cut(1, LEFT);
                    String call = "cut(" + size + ", " + end + ") of " + stripes;
                    due(call, x.cut(size, end), size <= stripes ? size : NOT_POSSIBLE);
                    due("stripes left after " + call, x.count(1), size <= stripes ? stripes - size : stripes);
                }
            }
        }
    }

    @Says("A game: from the left or the right end of what is left")
    static void bothEndsOfWhatIsLeft() {
        BoltTailors x = cuts(on("abcdef"), "l2r2");
        due("the left piece's first stripe", x.piece(0, 0, 0), 0);
        due("the right piece's first stripe", x.piece(1, 0, 0), 4);
        due("the first stripe left", x.count(2), 2);
        due("the last stripe left", x.count(3), 3);
        x.save();
        for (boolean end : BOTH_ENDS) {
            x.restore();
            due("all from one end", x.cut(2, end), 2);
            due("its first stripe", x.piece(0, 1, 0), 2);
            due("whether from the left", x.piece(0, 1, 3), end ? 1 : 0);
        }
    }

    @Says("A game: sews it on to the own coat, behind the pieces that are there")
    static void behindThePiecesThatAreThere() {
        BoltTailors x = cuts(on("abcdef"), "r1r2l1l1l1");
        int[][] firsts = {{5, 0, 2}, {3, 1}};
        for (int tailor = 0; tailor < 2; tailor++) {
            due("pieces of " + tailor, x.coat(tailor, 1), firsts[tailor].length);
            for (int piece = 0; piece < firsts[tailor].length; piece++) {
                due("piece(" + tailor + ", " + piece + ", 0)", x.piece(tailor, piece, 0), firsts[tailor][piece]);
            }
        }
        due("the last colour of 0", x.coat(0, 3), 2);
        due("the last colour of 1", x.coat(1, 3), 1);
    }

    @Says("A game: the piece lies as it lay in the bolt (its first stripe is its leftmost one)")
    static void thePieceIsNotTurned() {
        BoltTailors x = on("acfab", 4, 0, 9);
        cuts(x, "l1l1");
        due("a match with the leftmost stripe of a right piece", x.cut(2, RIGHT), 11);
        due("its first stripe", x.piece(0, 1, 0), 3);
        due("the coat's last stripe is the rightmost one", x.coat(0, 3), 1);
        x = cuts(on("acfba", 4, 0, 9), "l1l1");
        due("no match with the rightmost stripe", x.cut(2, RIGHT), 2);
        due("the coat's last stripe", x.coat(0, 3), 0);
    }

    @Says("A game: The game is over if nothing is left.")
    static void overIfNothingIsLeft() {
        BoltTailors x = cuts(on("abc"), "l1r1");
        due("on turn with one stripe left", x.count(4), 0);
        due("worth(1, left)", x.worth(1, LEFT), 1);
        due("bestCut()", x.bestCut(), 1);
        cuts(x, "r1");
        due("on turn with none left", x.count(4), NONE);
        due("cut(1, left)", x.cut(1, LEFT), NOT_POSSIBLE);
        due("best()", x.best(), NOT_POSSIBLE);
        due("greedy()", x.greedy(), NOT_POSSIBLE);
        due("worth(1, left)", x.worth(1, LEFT), NOT_POSSIBLE);
        due("leadWith(1, left)", x.leadWith(1, LEFT), NOT_POSSIBLE);
        due("bestCut()", x.bestCut(), NOT_POSSIBLE);
        due("lead(0)", x.lead(0), 1000);
        due("lead(1)", x.lead(1), 1000);
        due("ended(0, 0, 2)", x.ended(0, 0, 2), 0);
    }

    @Says("A game: What a cut is worth: the number of its stripes")
    static void worthOfThePlainStripes() {
        for (int size = 1; size <= 5; size++) {
            for (boolean end : BOTH_ENDS) {
                due("cut(" + size + ", " + end + ")", on("abcdef", 5, 9, 9).cut(size, end), size);
            }
        }
    }

    @Says("A game: FOLD, if the piece has two stripes or more")
    static void aFoldHasTwoStripesOrMore() {
        for (boolean end : BOTH_ENDS) {
            BoltTailors x = on("aa", 5, 9, 0);
            due("one stripe", x.cut(1, end), 1);
            due("folds paid", x.coat(0, 5), 0);
            x.again();
            due("two stripes", x.cut(2, end), 11);
            due("folds paid", x.coat(0, 5), 1);
        }
    }

    @Says("A game: and is the same from the left and from the right")
    static void aFoldIsTheSameFromBothEnds() {
        for (int size = 2; size <= 5; size++) {
            for (int drawn = 0; drawn < 1 << size; drawn++) {
                StringBuilder piece = new StringBuilder();
                for (int i = 0; i < size; i++) {
                    piece.append((drawn >> i & 1) == 0 ? 'a' : 'f');
                }
                boolean fold = piece.toString().equals(new StringBuilder(piece).reverse().toString());
                due("a cut of " + piece + " from the left", on(piece + "c", 5, 9, 0).cut(size, LEFT), fold ? size + 9 : size);
                due("a cut of " + piece + " from the right", on("c" + piece, 5, 9, 0).cut(size, RIGHT), fold ? size + 9 : size);
            }
        }
    }

    @Says("A game: MATCH, if the coat has a piece already")
    static void noMatchOfTheFirstPiece() {
        for (char colour = 'a'; colour <= 'f'; colour++) {
            BoltTailors x = on(colour + "*4", 1, 0, 9);
            due("the first piece of 0, " + colour, x.cut(1, LEFT), 1);
            due("the first piece of 1, " + colour, x.cut(1, LEFT), 1);
            due("the second piece of 0, " + colour, x.cut(1, LEFT), 10);
            due("the second piece of 1, " + colour, x.cut(1, LEFT), 10);
            x.again();
            due("the first piece of 0 after again(), " + colour, x.cut(1, LEFT), 1);
            type(x, colour + "*2").load();
            due("the first piece of 0 after load(), " + colour, x.cut(1, LEFT), 1);
            due("the first piece of 1 after load(), " + colour, x.cut(1, LEFT), 1);
        }
    }

    @Says("A game: the last stripe of its latest piece has the same colour as the first stripe of the new one")
    static void aMatchIsOfTheSameColour() {
        for (char last = 'a'; last <= 'f'; last++) {
            for (char first = 'a'; first <= 'f'; first++) {
                String bolt = "" + last + "c" + first;
                due("the third cut of " + bolt, cuts(on(bolt, 1, 0, 9), "l1l1").cut(1, LEFT), last == first ? 10 : 1);
            }
        }
        due("the first stripe of the latest piece", cuts(on("abcac", 2, 0, 9), "l2l1").cut(1, LEFT), 1);
        due("its last stripe", cuts(on("abcbc", 2, 0, 9), "l2l1").cut(1, LEFT), 10);
        due("a piece ahead of the latest one", cuts(on("acbca", 1, 0, 9), "l1l1l1l1").cut(1, LEFT), 1);
        due("the last stripe of the new one", cuts(on("acba", 2, 0, 9), "l1l1").cut(2, LEFT), 2);
        due("the coat of the other one", cuts(on("abb", 1, 0, 9), "l1l1").cut(1, LEFT), 1);
    }

    @Says("A game: The worth of a coat is the sum of what its cuts were worth when they were made.")
    static void theWorthOfACoatStays() {
        BoltTailors x = cuts(on("aabaab", 2, 9, 9), "l2l1l2");
        due("coat(0, 0)", x.coat(0, 0), 11 + 20);
        due("coat(1, 0)", x.coat(1, 0), 1);
        x.set(FOLD, 0);
        x.set(MATCH, 0);
        due("coat(0, 0) with other settings", x.coat(0, 0), 11 + 20);
        cuts(x, "l1");
        due("coat(1, 0) of two settings", x.coat(1, 0), 1 + 1);
        due("coat(0, 0) without a piece", new BoltTailors().coat(0, 0), 0);
    }

    // ---- the best cuts

    @Says("The best cuts: what all cuts that the tailor makes from now on are worth, less what those of the other one are")
    static void whatWasCutIsNotInTheLead() {
        for (int way = 0; way <= 1; way++) {
            BoltTailors x = cuts(on("aab", 2, 9, 0), "l2");
            due("lead(" + way + ") behind a cut worth 11", x.lead(way), 1001);
            cuts(x, "l1");
            due("lead(" + way + ") at the end", x.lead(way), 1000);
            x = cuts(on("abaaaaab", 5, 9, 9), "l1");
            due("lead(" + way + ") of the tailor 1", x.lead(way), 1003);
            due("lead(" + way + ") below 0", cuts(on("aabaaaaab", 5, 9, 9), "l1").lead(way), 991);
        }
    }

    @Says("The best cuts: the greatest lead that the tailor can be sure of, if both cut as well for themselves as they can")
    static void bothCutAsWellAsTheyCan() {
        BoltTailors x = on("aabb", 3, 3, 2);
        due("lead(0)", x.lead(0), 1002);
        due("leadWith(2, left), worth more at once", x.leadWith(2, LEFT), 1000);
        due("leadWith(3, left)", x.leadWith(3, LEFT), 1002);
        due("worth(3, left)", x.worth(3, LEFT), 3);
    }

    @Says("The best cuts: of several, those from the left come ahead of those from the right")
    static void leftAheadOfRight() {
        choiceIs("a", on("a"), 1, 1);
        choiceIs("aaaaa", on("aaaaa", 5, 9, 0), 5, 5);
        choiceIs("abbabbb, a shorter one from the right", on("abbabbb"), 4, 4);
        due("leadWith(4, left)", on("abbabbb").leadWith(4, LEFT), on("abbabbb").leadWith(2, RIGHT));
        choiceIs("aababbc, the shortest one from the right", on("aababbc"), 2, 2);
        due("leadWith(2, left)", on("aababbc").leadWith(2, LEFT), on("aababbc").leadWith(1, RIGHT));
    }

    @Says("The best cuts: and shorter ones ahead of longer ones")
    static void shorterAheadOfLonger() {
        choiceIs("aaaabbb", on("aaaabbb"), 2, 4);
        due("leadWith(2, left)", on("aaaabbb").leadWith(2, LEFT), on("aaaabbb").leadWith(3, LEFT));
        choiceIs("aaabbbb, from the right", on("aaabbbb"), 12, 14);
        due("leadWith(2, right)", on("aaabbbb").leadWith(2, RIGHT), on("aaabbbb").leadWith(3, RIGHT));
        choiceIs("abbbcca, from the right", on("abbbcca"), 11, 4);
        due("leadWith(1, right)", on("abbbcca").leadWith(1, RIGHT), on("abbbcca").leadWith(4, RIGHT));
    }

    @Says("The best cuts: By greed a tailor makes the cut that is worth most at once")
    static void greedTakesMostAtOnce() {
        choiceIs("aabb", on("aabb", 3, 3, 2), 3, 2);
        choiceIs("dcbaa, by one more from the right", on("dcbaa", 4, 3, 0), 4, 12);
        BoltTailors x = cuts(on("aca"), "l1l1");
        due("greedy() at the last stripe", x.greedy(), 3);
    }

    @Says("The best cuts: of several by the same order.")
    static void greedKeepsTheSameOrder() {
        BoltTailors x = on("dcbaa", 4, 2, 0);
        due("greedy()", x.greedy(), 4);
        due("a longer one from the left ahead of a shorter one from the right", cutMade(x), 4);
        x = on("aabcd", 4, 2, 0);
        due("greedy()", x.greedy(), 4);
        due("the shorter one from the left", cutMade(x), 2);
        x = cuts(on("acdbab", 3, 2, 3), "l1l1");
        due("greedy()", x.greedy(), 5);
        due("the shorter one from the right", cutMade(x), 12);
        x = on("f");
        x.greedy();
        due("one stripe, from the left", cutMade(x), 1);
    }

    // ---- settings

    private static void settingIs(int what, int lowest, int highest, int first) {
        BoltTailors x = new BoltTailors();
        due("the first value", x.count(9 + what), first);
        due("set() of one less than the lowest", x.set(what, lowest - 1), INVALID);
        due("set() of one more than the highest", x.set(what, highest + 1), INVALID);
        due("set() of the least int", x.set(what, MIN), INVALID);
        due("set() of the greatest int", x.set(what, MAX), INVALID);
        due("the value then", x.count(9 + what), first);
        int before = first;
        for (int value = lowest; value <= highest; value++) {
            due("set(" + what + ", " + value + ")", x.set(what, value), before);
            due("count(" + (9 + what) + ")", x.count(9 + what), value);
            before = value;
        }
    }

    @Says("Settings: LONGEST (1 to 5; 4)")
    static void theRangeOfLongest() {
        settingIs(LONGEST, 1, 5, 4);
    }

    @Says("Settings: FOLD (0 to 9; 3)")
    static void theRangeOfFold() {
        settingIs(FOLD, 0, 9, 3);
        due("a fold at FOLD 0", on("aa", 4, 0, 2).cut(2, LEFT), 2);
        due("a fold at FOLD 9", on("aa", 4, 9, 2).cut(2, LEFT), 11);
    }

    @Says("Settings: MATCH (0 to 9; 2)")
    static void theRangeOfMatch() {
        settingIs(MATCH, 0, 9, 2);
        due("a match at MATCH 0", cuts(on("aba", 4, 3, 0), "l1l1").cut(1, LEFT), 1);
        due("a match at MATCH 9", cuts(on("aba", 4, 3, 9), "l1l1").cut(1, LEFT), 10);
    }

    // ---- texts

    @Says("Texts: There is a pad of at most 60 characters")
    static void thePadHoldsSixty() {
        BoltTailors x = on("a*20", 1, 0, 0);
        for (int length = 1; length <= 60; length++) {
            due("append() " + length, x.append('b'), length);
        }
        due("append() 61", x.append('b'), LIMIT);
        due("count(12)", x.count(12), 60);
        due("play() of all sixty", x.play(), 20);
        due("append() then", x.append('b'), 1);
    }

    @Says("Texts: initially empty")
    static void thePadIsEmptyAtFirst() {
        due("count(12)", new BoltTailors().count(12), 0);
        due("clear()", new BoltTailors().clear(), 0);
        due("fault(0)", new BoltTailors().fault(0), 0);
        due("fault(1)", new BoltTailors().fault(1), 0);
    }

    @Says("Texts: A bolt: 1 to 20 letters a to f")
    static void lettersOfABolt() {
        faultIs(0, "", 0);
        for (int letters = 1; letters <= 20; letters++) {
            faultIs(0, TWENTY.substring(0, letters), NONE);
        }
        faultIs(0, TWENTY + "a", 20);
        faultIs(0, TWENTY + TWENTY, 20);
        faultIs(0, TWENTY + "g", 20);
        faultIs(0, "a`", 1);
        faultIs(0, "fg", 1);
        faultIs(0, "`", 0);
        faultIs(0, "g", 0);
        faultIs(0, "A", 0);
    }

    @Says("Texts: or 1 to 6 letters a to f (the pattern), \"*\"")
    static void lettersOfAPattern() {
        faultIs(0, "*9", 0);
        for (int letters = 1; letters <= 20; letters++) {
            faultIs(0, TWENTY.substring(0, letters) + "*9", letters <= 6 ? NONE : letters);
        }
        faultIs(0, TWENTY + "a*9", 20);
        faultIs(0, "abcdeg*9", 5);
        faultIs(0, "ab)9", 2);
        faultIs(0, "ab+9", 2);
        faultIs(0, "ab9", 2);
    }

    @Says("Texts: a number 1 to 20 (how many stripes)")
    static void numbersOneToTwenty() {
        for (int stripes = 1; stripes <= 20; stripes++) {
            faultIs(0, "abc*" + stripes, NONE);
        }
        for (int stripes = 21; stripes <= 99; stripes++) {
            faultIs(0, "abc*" + stripes, 5);
        }
        for (int stripes = 100; stripes <= 209; stripes++) {
            faultIs(0, "abc*" + stripes, 6);
        }
        faultIs(0, "abc*0", 4);
        faultIs(0, "abc*", 4);
        faultIs(0, "abc*/", 4);
        faultIs(0, "abc*:", 4);
        faultIs(0, "abc*-1", 4);
        faultIs(0, "abc*1/", 5);
        faultIs(0, "abc*1:", 5);
        faultIs(0, "abc*+1", 4);
    }

    @Says("Texts: and perhaps \"+\" and a digit 0 to 5")
    static void aPhaseOfOneDigit() {
        for (int phase = 0; phase <= 9; phase++) {
            faultIs(0, "abcdef*9+" + phase, phase <= 5 ? NONE : 9);
        }
        faultIs(0, "abcdef*9+", 9);
        faultIs(0, "abcdef*9+/", 9);
        faultIs(0, "abcdef*9+:", 9);
        faultIs(0, "abcdef*9+a", 9);
        faultIs(0, "abcdef*9++1", 9);
        faultIs(0, "abcdef*9+10", 10);
        faultIs(0, "abcdef*9+1+", 10);
        faultIs(0, "abcdef*20+5", NONE);
        faultIs(0, "abcdef*20+55", 11);
        faultIs(0, "abc+1", 3);
        faultIs(0, "abc*9-1", 5);
    }

    @Says("Texts: less than the number of letters")
    static void aPhaseWithinThePattern() {
        for (int letters = 1; letters <= 6; letters++) {
            for (int phase = 0; phase <= 9; phase++) {
                String text = "abcdef".substring(0, letters) + "*7+" + phase;
                faultIs(0, text, phase < letters ? NONE : letters + 3);
                loadIs(text, phase < letters ? 7 : NOT_POSSIBLE);
            }
        }
    }

    private static void patternIs(String pattern, int stripes, int phase, String text) {
        StringBuilder want = new StringBuilder();
        for (int letter = phase; want.length() < stripes; letter++) {
            letter = letter == pattern.length() ? 0 : letter;
            want.append(pattern.charAt(letter));
        }
        BoltTailors x = pad(text);
        x.load();
        same("the bolt of " + text, bolt(x), want.toString());
    }

    @Says("Texts: (the phase: with which letter of the pattern the first stripe begins, 0 without it)")
    static void thePhase() {
        for (int phase = 0; phase <= 5; phase++) {
            due("the first stripe at phase " + phase, on("abcdef*1+" + phase).stripe(0), phase);
        }
        due("the first stripe without a phase", on("fedcba*1").stripe(0), 5);
        due("the first stripe at phase 0", on("fedcba*1+0").stripe(0), 5);
        patternIs("fab", 2, 0, "fab*2");
        patternIs("fab", 2, 1, "fab*2+1");
    }

    @Says("Texts: The pattern begins again behind its last letter.")
    static void thePatternBeginsAgain() {
        for (int letters = 1; letters <= 6; letters++) {
            String pattern = "fbdace".substring(0, letters);
            for (int stripes = 1; stripes <= 20; stripes++) {
                patternIs(pattern, stripes, 0, pattern + "*" + stripes);
                for (int phase = 0; phase < letters; phase++) {
                    patternIs(pattern, stripes, phase, pattern + "*" + stripes + "+" + phase);
                }
            }
        }
    }

    @Says("Texts: Cuts: one or more of")
    static void oneCutOrMore() {
        faultIs(1, "", 0);
        due("play() of none", new BoltTailors().play(), NOT_POSSIBLE);
        for (String text : new String[] {"l1", "r1", "b", "g"}) {
            faultIs(1, text, NONE);
            due("play() of " + text, pad(text).play(), 1);
        }
        faultIs(1, repeat("l1", 30), NONE);
        faultIs(1, repeat("b", 60), NONE);
        faultIs(1, repeat("l1r2b", 12), NONE);
    }

    private static void sideIs(String side) {
        faultIs(1, side, 1);
        for (char sign = '/'; sign <= ':'; sign++) {
            faultIs(1, side + sign, sign >= '1' && sign <= '5' ? NONE : 1);
            faultIs(1, "bg" + side + sign, sign >= '1' && sign <= '5' ? NONE : 3);
        }
        faultIs(1, side + side, 1);
        faultIs(1, side + "b", 1);
        faultIs(1, side + "12", 2);
        faultIs(1, side + "1" + side, 3);
    }

    @Says("Texts: \"l\" and a digit 1 to 5 (from the left)")
    static void cutsFromTheLeft() {
        sideIs("l");
        for (int size = 1; size <= 5; size++) {
            BoltTailors x = on("abcdef", 5, 3, 2);
            due("play() of l" + size, type(x, "l" + size).play(), 1);
            due("the first stripe left", x.count(2), size);
        }
    }

    @Says("Texts: \"r\" and a digit 1 to 5 (from the right)")
    static void cutsFromTheRight() {
        sideIs("r");
        for (int size = 1; size <= 5; size++) {
            BoltTailors x = on("abcdef", 5, 3, 2);
            due("play() of r" + size, type(x, "r" + size).play(), 1);
            due("the last stripe left", x.count(3), 5 - size);
        }
    }

    @Says("Texts: \"b\" (the best cut), \"g\" (the cut by greed), one behind the other")
    static void bestAndGreedyCuts() {
        BoltTailors x = type(on("aabb", 3, 3, 2), "b");
        due("play() of b", x.play(), 1);
        due("its cut", cutMade(x), 3);
        x = type(on("aabb", 3, 3, 2), "g");
        due("play() of g", x.play(), 1);
        due("its cut", cutMade(x), 2);
        x = type(on("aabb", 3, 3, 2), "gl1b");
        due("play() of gl1b", x.play(), 3);
        due("the last cut", cutMade(x), 1);
        faultIs(1, "a", 0);
        faultIs(1, "c", 0);
        faultIs(1, "f", 0);
        faultIs(1, "h", 0);
        faultIs(1, "k", 0);
        faultIs(1, "m", 0);
        faultIs(1, "q", 0);
        faultIs(1, "s", 0);
        faultIs(1, "B", 0);
        faultIs(1, "b1", 1);
        faultIs(1, "1", 0);
        faultIs(1, "b,g", 1);
    }

    @Says("Texts: Numbers have no needless 0 ahead.")
    static void noNeedlessZero() {
        faultIs(0, "abc*05", 4);
        faultIs(0, "abc*010", 4);
        faultIs(0, "abc*00", 4);
        faultIs(0, "abc*10", NONE);
        faultIs(0, "abc*20", NONE);
        faultIs(0, "abc*5+02", 7);
        faultIs(0, "abc*5+00", 7);
        faultIs(0, "abc*5+0", NONE);
        faultIs(1, "l01", 1);
        loadIs("abc*05", NOT_POSSIBLE);
    }

    @Says("Texts: is the position, from 0, of the first character that is wrong")
    static void theFirstWrongCharacter() {
        String bolt = "abcdef*20+5";
        for (int i = 0; i < bolt.length(); i++) {
            faultIs(0, bolt.substring(0, i) + "~~", i);
        }
        faultIs(0, bolt + "~~", bolt.length());
        String cuts = repeat("bgl1r5", 9);
        for (int i = 0; i < cuts.length(); i++) {
            faultIs(1, cuts.substring(0, i) + "~~", i);
        }
        faultIs(1, repeat("b", 59) + "~", 59);
        faultIs(0, "l1", 0);
        faultIs(1, "abc", 0);
    }

    @Says("Texts: no pad of that kind begins with the characters before it and this character")
    static void noPadBeginsSo() {
        // a pad has at most 60 characters, so none has a digit behind an "l" or "r" as its 60th
        faultIs(1, repeat("b", 59) + "l", 59);
        faultIs(1, repeat("b", 59) + "r", 59);
        faultIs(1, repeat("b", 58) + "l", 59);
        faultIs(1, repeat("b", 58) + "l5", NONE);
        // a "2" can begin "20", but no other number of two digits
        faultIs(0, "abc*2", NONE);
        faultIs(0, "abc*20", NONE);
        faultIs(0, "abc*21", 5);
        // six letters can begin a pattern, seven a bolt alone
        faultIs(0, "abcdef*", 7);
        faultIs(0, "abcdefa*", 7);
    }

    @Says("Texts: if there is none, and the pad is not complete (also if it is empty), the length of the pad")
    static void thePadIsNotComplete() {
        faultIs(0, "", 0);
        faultIs(1, "", 0);
        faultIs(0, "a*", 2);
        faultIs(0, "abcdef*", 7);
        faultIs(0, "abc*5+", 6);
        faultIs(0, "abc*15+", 7);
        faultIs(1, "l", 1);
        faultIs(1, "bgr", 3);
        BoltTailors x = pad("abc");
        x.clear();
        due("fault(0), empty again", x.fault(0), 0);
        due("fault(1), empty again", x.fault(1), 0);
    }

    // ---- changes and errors

    @Says("Changes and errors: The changes are the calls of cut, best, greedy, again, mirror, set, load, play and restore that return no error.")
    static void eachChangeIsRecorded() {
        for (int change = 0; change < CHANGES; change++) {
            BoltTailors x = new BoltTailors();
            x.save();
            boolean readsThePad = change == 6 || change == 7;
            type(x, readsThePad ? "" : "~~");
            makeChange(x, change);
            due("states after change " + change, x.count(13), 1);
            due("the pad after change " + change, x.count(12), readsThePad ? 0 : 2);
            due("undo() of change " + change, x.undo(), 0);
            due("the pad after undo() of change " + change, x.count(12), readsThePad ? 0 : 2);
        }
    }

    private static final int CHANGES = 9;

    private static void makeChange(BoltTailors x, int change) {
        switch (change) {
            case 0: x.cut(1, LEFT); break;
            case 1: x.best(); break;
            case 2: x.greedy(); break;
            case 3: x.again(); break;
            case 4: x.mirror(); break;
            case 5: x.set(FOLD, 9); break;
            case 6: type(x, "ab").load(); break;
            case 7: type(x, "l1r1").play(); break;
            default: x.restore(); break;
        }
    }

    @Says("Changes and errors: ---- what would be; nothing is changed.")
    static void noOtherCallIsAChange() {
        BoltTailors x = cuts(on("abcab"), "l1");
        x.save();
        String before = all(x);
        x.append('a');
        x.clear();
        x.fault(0);
        x.fault(1);
        x.stripe(0);
        x.coat(0, 0);
        x.piece(0, 0, 0);
        x.count(0);
        x.left(0);
        x.worth(1, LEFT);
        x.lead(0);
        x.lead(1);
        x.leadWith(1, RIGHT);
        x.bestCut();
        x.ended(0, 1, 2);
        x.ended(1, 0, 0);
        x.rate();
        x.save();
        same("what other calls leave", all(x), before);
        due("undo()", x.undo(), 1);
    }

    @Says("Changes and errors: A history of at most 4 states is kept")
    static void atMostFourStates() {
        BoltTailors x = new BoltTailors();
        for (int change = 1; change <= 9; change++) {
            x.again();
            due("states after " + change, x.count(13), Math.min(change, 4));
        }
        for (int states = 3; states >= 0; states--) {
            due("undo()", x.undo(), states);
        }
        due("undo() of a fifth", x.undo(), NOT_POSSIBLE);
        due("states", x.count(13), 0);
    }

    @Says("Changes and errors: each change records everything before it but the pad and the snapshot")
    static void everythingIsRecordedButPadAndSnapshot() {
        for (int change = 0; change < CHANGES; change++) {
            BoltTailors x = new BoltTailors();
            x.set(LONGEST, 3);
            x.save();
            cuts(x, "l2r3");
            String before = looks(x);
            makeChange(x, change);
            type(x, "xyz");
            x.undo();
            same("what change " + change + " recorded", looks(x), before);
            due("the pad stays", x.count(12), 3);
            due("the snapshot stays", x.restore(), 12);
        }
    }

    @Says("Changes and errors: (also if nothing is different then)")
    static void aChangeWithoutADifferenceIsRecorded() {
        BoltTailors x = new BoltTailors();
        due("again() at the beginning", x.again(), 12);
        due("states", x.count(13), 1);
        due("set() of the same value", x.set(LONGEST, 4), 4);
        due("states", x.count(13), 2);
        due("play() of none", type(x, "l5").play(), 0);
        due("states", x.count(13), 3);
        x.save();
        due("restore() of the same", x.restore(), 12);
        due("states", x.count(13), 4);
        x = new BoltTailors();
        due("load() of the same bolt", type(x, "abc*12").load(), 12);
        due("states", x.count(13), 1);
        x = on("aba");
        due("mirror() of a fold", x.mirror(), 0);
        due("states", x.count(13), 2);
        cuts(x, "l3");
        due("mirror() of nothing", x.mirror(), 0);
        due("states", x.count(13), 4);
        same("the bolt", bolt(x), "aba");
    }

    @Says("Changes and errors: if there are 5 states then, the oldest one is dropped")
    static void theOldestStateIsDropped() {
        BoltTailors x = new BoltTailors();
        for (int value = 1; value <= 5; value++) {
            x.set(MATCH, value);
        }
        for (int value = 4; value >= 1; value--) {
            x.undo();
            due("MATCH", x.count(11), value);
        }
        due("undo() to the first value", x.undo(), NOT_POSSIBLE);
        due("MATCH", x.count(11), 1);
        // again behind the undoing, with more than one dropped
        for (int value = 0; value <= 9; value++) {
            x.set(MATCH, value);
        }
        for (int value = 8; value >= 5; value--) {
            x.undo();
            due("MATCH", x.count(11), value);
        }
        due("undo() to the dropped ones", x.undo(), NOT_POSSIBLE);
        // no state is dropped below five
        for (int value = 6; value <= 9; value++) {
            x.set(MATCH, value);
        }
        due("states", x.count(13), 4);
        x.undo();
        x.set(MATCH, 0);
        x.undo();
        x.undo();
        x.undo();
        due("undo()", x.undo(), 0);
        due("MATCH", x.count(11), 5);
    }

    @Says("Changes and errors: INVALID_ARGUMENT is returned rather than NOT_POSSIBLE")
    static void invalidRatherThanNotPossible() {
        for (int size : new int[] {0, 6, -1, MIN, MAX}) {
            for (boolean end : BOTH_ENDS) {
                BoltTailors x = emptied();
                due("cut(" + size + ", " + end + "), over", x.cut(size, end), INVALID);
                due("worth(" + size + ", " + end + "), over", x.worth(size, end), INVALID);
                due("leadWith(" + size + ", " + end + "), over", x.leadWith(size, end), INVALID);
                x = on("a", 1, 0, 0);
                due("cut(" + size + ", " + end + "), of one", x.cut(size, end), INVALID);
                due("worth(" + size + ", " + end + "), of one", x.worth(size, end), INVALID);
                due("leadWith(" + size + ", " + end + "), of one", x.leadWith(size, end), INVALID);
            }
        }
    }

    // no call has both NOT_POSSIBLE and LIMIT_REACHED, or both LIMIT_REACHED and NOT_FOUND

    @Says("Changes and errors: NOT_POSSIBLE rather than LIMIT_REACHED")
    static void invalidRatherThanLimitReached() {
        BoltTailors x = pad(repeat("b", 60));
        for (int code : new int[] {32, 127, 0, -1, MIN, MAX}) {
            due("append(" + code + "), full", x.append(code), INVALID);
        }
        due("append(33), full", x.append(33), LIMIT);
        due("append(126), full", x.append(126), LIMIT);
    }

    @Says("Changes and errors: LIMIT_REACHED rather than NOT_FOUND")
    static void invalidRatherThanNotFound() {
        BoltTailors x = new BoltTailors();
        due("coat(2, 3), without a piece", x.coat(2, 3), INVALID);
        due("coat(-1, 3), without a piece", x.coat(-1, 3), INVALID);
        due("piece(2, 0, 0), without a piece", x.piece(2, 0, 0), INVALID);
        due("piece(-1, 0, 0), without a piece", x.piece(-1, 0, 0), INVALID);
        due("piece(0, 0, 4), without a piece", x.piece(0, 0, 4), INVALID);
        due("piece(0, 0, -1), without a piece", x.piece(0, 0, -1), INVALID);
        due("piece(0, -1, 0), without a piece", x.piece(0, -1, 0), INVALID);
        type(x, "b");
        due("fault(2), without a fault", x.fault(2), INVALID);
        due("fault(-1), without a fault", x.fault(-1), INVALID);
    }

    private static final int STATES = 4;

    /** A full history, a snapshot that differs from it, and a pad that is in the way of load() and play(). */
    private static BoltTailors inState(int state) {
        BoltTailors x = on("abcab", 4, 3, 2);
        switch (state) {
            case 0:
                cuts(x, "l1");
                x.save();
                cuts(x, "l1r1");
                return type(x, "a*l");
            case 1:
                x.save();
                cuts(x, "l2l3");
                return x;
            case 2:
                cuts(x, "r2");
                x.set(LONGEST, 1);
                x.save();
                x.mirror();
                return type(x, repeat("c*1b", 15));
            default:
                return pad("g*");
        }
    }

    private static final int REFUSED = 40;

    private static int callRefused(BoltTailors x, int call) {
        int[] sizes = {0, 6, -1, MIN, MAX};
        if (call < 15) {
            int size = sizes[call % 5];
            return call < 5 ? x.cut(size, LEFT) : call < 10 ? x.worth(size, RIGHT) : x.leadWith(size, LEFT);
        }
        switch (call) {
            case 15: return x.cut(5, LEFT);
            case 16: return x.cut(5, RIGHT);
            case 17: return x.worth(5, LEFT);
            case 18: return x.leadWith(5, RIGHT);
            case 19: return x.set(-1, 1);
            case 20: return x.set(3, 1);
            case 21: return x.set(LONGEST, 0);
            case 22: return x.set(LONGEST, 6);
            case 23: return x.set(FOLD, -1);
            case 24: return x.set(MATCH, 10);
            case 25: return x.append(32);
            case 26: return x.append(127);
            case 27: return x.fault(2);
            case 28: return x.load();
            case 29: return x.play();
            case 30: return x.stripe(5 + 15);
            case 31: return x.coat(2, 0);
            case 32: return x.piece(0, -1, 0);
            case 33: return x.piece(0, 10, 0);
            case 34: return x.count(14);
            case 35: return x.left(6);
            case 36: return x.lead(2);
            case 37: return x.ended(2, 0, 0);
            case 38: return x.ended(0, -1, 2);
            default: return x.ended(0, 0, 3);
        }
    }

    /** All of an object, with its history, its snapshot and its pad; the object is used up by it. */
    private static String everything(BoltTailors x) {
        StringBuilder text = new StringBuilder(all(x));
        while (x.undo() >= 0) {
            text.append(" / ").append(looks(x));
        }
        text.append(" / ").append(x.restore()).append(looks(x));
        while (x.clear() > 0) {
            text.append(" cleared");
        }
        return text.toString();
    }

    @Says("Changes and errors: A call that returns an error changes nothing (the pad stays, too).")
    static void anErrorChangesNothing() {
        for (int state = 0; state < STATES; state++) {
            String before = everything(inState(state));
            for (int call = 0; call < REFUSED; call++) {
                BoltTailors x = inState(state);
                due("whether call " + call + " is refused in state " + state, callRefused(x, call) < 0 ? 1 : 0, 1);
                same("state " + state + " after call " + call, everything(x), before);
            }
        }
    }

    @Says("Changes and errors: A call that returns an error changes nothing")
    static void anErrorAtTheEndChangesNothing() {
        String before = everything(inState(1));
        for (int call = 0; call < 4; call++) {
            BoltTailors x = inState(1);
            int answer = call == 0 ? x.best() : call == 1 ? x.greedy() : call == 2 ? x.bestCut() : x.cut(1, LEFT);
            due("call " + call + ", over", answer, NOT_POSSIBLE);
            same("state after call " + call, everything(x), before);
        }
        String fresh = looks(new BoltTailors());
        BoltTailors x = new BoltTailors();
        due("undo() without a state", x.undo(), NOT_POSSIBLE);
        due("restore() without a snapshot", x.restore(), NOT_POSSIBLE);
        due("states", x.count(13), 0);
        same("a new object after them", looks(x), fresh);
        x = pad(repeat("l1", 30));
        due("append(98), full", x.append('b'), LIMIT);
        due("play() of what the pad held", x.play(), 12);
    }

    @Says("Changes and errors: (the pad stays, too)")
    static void thePadStaysAtAnError() {
        BoltTailors x = pad("l2r1l");
        due("load()", x.load(), NOT_POSSIBLE);
        due("play()", x.play(), NOT_POSSIBLE);
        due("append(32)", x.append(32), INVALID);
        due("count(12)", x.count(12), 5);
        x.append('3');
        due("play() of what stayed", x.play(), 3);
        due("stripes left", x.count(1), 6);
        x = pad("fed*");
        due("play()", x.play(), NOT_POSSIBLE);
        due("load()", x.load(), NOT_POSSIBLE);
        x.append('4');
        due("load() of what stayed", x.load(), 4);
        same("its bolt", bolt(x), "fedf");
    }
}
