/** The edges of promises 14 to 18, 24, 25, 43, 44 and of STATUS: what is full, empty, refused, undone, kept as an image. */
final class ActEdgesTest {
    private static final Due DUE = new Due("ActEdgesTest");
    /** To the left of the first needle, to its right, at its place. */
    private static final String FAIR = "one 0 10 1;one 20 10 2;one 10 10 3;needle 10 10 40 0;needle 10 20 40 0;";

    public static void main(String[] args) {
        tellUpToSixteen();
        tellBounds();
        tellAnswersTheNextNumber();
        backDownToNone();
        backUndone();
        rustBounds();
        carryBounds();
        carryToWhereAnotherIs();
        carriedAsIfAlwaysThere();
        refusedActsAreNoActs();
        undoDownToNone();
        fortyAreKept();
        eachKindAsTheFortyFirst();
        undoIsNoAct();
        actsBehindAnUndo();
        seeUpToEight();
        seeBounds();
        seeingIsNoAct();
        statusCountsEachKind();
        fairLeavesStatus();
        fairAndAFaultyFair();
        imageOfNothing();
        imageInPlaceOfAnother();
        restoreAgainAndAgain();
        restoreOfFullRows();
        restoreLeavesTheRest();
        imageOfFortyActs();
        fiveHundredAndTwelveCalls();
        DUE.end();
    }

    private static int refused(SaucerFair x) {
        return x.count(8);
    }

    // ---- TOLD, BACK

    /** "(there may be 16; ..)", "NONE (STATUS 1): there are 16". */
    private static void tellUpToSixteen() {
        SaucerFair x = Due.of(FAIR);
        for (int i = 0; i < 16; i++) {
            DUE.is("tell", x.tell(i, i % 3, i % 10), i);
            DUE.is("sayings", x.count(2), i + 1);
        }
        DUE.is("none is refused yet", refused(x), 0);
        DUE.is("a 17th", x.tell(1, 1, 1), -1);
        DUE.is("sayings", x.count(2), 16);
        DUE.is("refused", refused(x), 1);
        DUE.is("acts", x.count(4), 16);
        DUE.is("the 16th is as it was", x.saying(15, 0) * 100 + x.saying(15, 1) * 10 + x.saying(15, 2), 1505);
        DUE.is("back", x.back(), 15);
        DUE.is("a 16th again", x.tell(77, 2, 9), 15);
        DUE.is("a 17th again", x.tell(77, 2, 9), -1);
        SaucerFair full = Due.of(FAIR + "says 5 0 1;".repeat(16));
        DUE.is("sixteen by the text", full.tell(1, 1, 1), -1);
        DUE.is("undo doesn't help", full.undo(), -1);
        DUE.is("sixteen", full.count(2), 16);
        SaucerFair fifteen = Due.of(FAIR + "says 5 0 1;".repeat(15));
        DUE.is("fifteen by the text", fifteen.tell(1, 1, 1), 15);
    }

    /** "NONE (STATUS 1): .. no such HOUR, DEGREE." */
    private static void tellBounds() {
        SaucerFair x = Due.of(FAIR);
        int number = 0;
        for (int hour : new int[] {0, 1, 98, 99}) {
            DUE.is("hour " + hour, x.tell(hour, 0, 1), number);
            DUE.is("its hour", x.saying(number, 0), hour);
            number++;
        }
        for (int degree : new int[] {0, 1, 8, 9}) {
            DUE.is("degree " + degree, x.tell(5, 2, degree), number);
            DUE.is("its degree", x.saying(number, 2), degree);
            DUE.is("who", x.saying(number, 1), 2);
            number++;
        }
        int[] wrongHours = {-1, 100, 101, Integer.MIN_VALUE, Integer.MAX_VALUE};
        for (int i = 0; i < wrongHours.length; i++) {
            DUE.is("hour " + wrongHours[i], x.tell(wrongHours[i], 0, 1), -1);
            DUE.is("refused", refused(x), i + 1);
        }
        int[] wrongDegrees = {-1, 10, 11, Integer.MIN_VALUE, Integer.MAX_VALUE};
        for (int i = 0; i < wrongDegrees.length; i++) {
            DUE.is("degree " + wrongDegrees[i], x.tell(0, 0, wrongDegrees[i]), -1);
            DUE.is("refused", refused(x), i + 6);
        }
        DUE.is("both at once are one call", x.tell(100, 0, 10), -1);
        DUE.is("refused", refused(x), 11);
        DUE.noSuch("person 3", () -> x.tell(0, 3, 0));
        DUE.noSuch("person -1", () -> x.tell(0, -1, 0));
        DUE.is("what is thrown is not refused", refused(x), 11);
        DUE.is("sayings", x.count(2), 8);
        DUE.noSuch("nobody", () -> new SaucerFair().tell(0, 0, 0));
    }

    private static void tellAnswersTheNextNumber() {
        SaucerFair x = Due.of(FAIR + "says 50 0 1;says 3 1 2;");
        DUE.is("an hour ahead of all", x.tell(0, 2, 5), 2);
        DUE.is("the others are as they were", x.saying(0, 0) * 100 + x.saying(1, 0), 5003);
        DUE.is("shown ahead of all", x.shows(0, 0), 8);
        DUE.is("shown then", x.shows(0, 3), 2);
        DUE.is("a like one", x.tell(0, 2, 5), 3);
        DUE.is("both are his", x.one(2, 3), 12);
    }

    /** "BACK: how many there are then. NONE (STATUS 1): there is none." */
    private static void backDownToNone() {
        SaucerFair x = Due.of(FAIR + "says 5 0 1;".repeat(15) + "says 6 1 1;");
        for (int left = 15; left >= 0; left--) {
            DUE.is("back", x.back(), left);
            DUE.is("sayings", x.count(2), left);
            DUE.is("shown in hour 6", x.shows(0, 6), left == 0 ? -1 : 6);
        }
        DUE.is("none is refused yet", refused(x), 0);
        DUE.is("none", x.back(), -1);
        DUE.is("none again", x.back(), -1);
        DUE.is("refused", refused(x), 2);
        DUE.is("acts", x.count(4), 16);
        DUE.is("tell again", x.tell(0, 0, 0), 0);
        DUE.is("back again", x.back(), 0);
    }

    /** What is taken BACK and UNDONE comes back whole, and touches nothing else. */
    private static void backUndone() {
        for (int hour : new int[] {0, 1, 99}) {
            for (int who = 0; who < 3; who++) {
                SaucerFair x = Due.of(FAIR + "says 50 0 3;says " + hour + " " + who + " 7;");
                x.back();
                DUE.is("undo", x.undo(), 0);
                DUE.is("hour", x.saying(1, 0), hour);
                DUE.is("who", x.saying(1, 1), who);
                DUE.is("degree", x.saying(1, 2), 7);
                DUE.is("the other one", x.saying(0, 0) * 100 + x.saying(0, 1) * 10 + x.saying(0, 2), 5003);
                DUE.is("RUST", x.needle(0, 3) * 10 + x.needle(1, 3), 0);
                DUE.is("place", x.needle(0, 0) * 100 + x.needle(0, 1), 1010);
                DUE.is("place of the second", x.needle(1, 0) * 100 + x.needle(1, 1), 1020);
            }
        }
    }

    // ---- RUST, CARRIED

    /** "RUST: as it was. NONE (STATUS 1): not 0 to 9." */
    private static void rustBounds() {
        SaucerFair x = Due.of("one 0 10 1;needle 10 10 40 9;needle 10 20 40 0;says 0 0 9;");
        int before = 9;
        for (int rust : new int[] {0, 1, 8, 9, 9, 0}) {
            DUE.is("as it was", x.rust(0, rust), before);
            DUE.is("as it is", x.needle(0, 3), rust);
            DUE.is("HEARD by", x.saying(0, 3), rust == 9 ? 2 : 3);
            before = rust;
        }
        DUE.is("acts, one without a change too", x.count(4), 6);
        int[] wrong = {-1, 10, 11, Integer.MIN_VALUE, Integer.MAX_VALUE};
        for (int i = 0; i < wrong.length; i++) {
            DUE.is("rust " + wrong[i], x.rust(0, wrong[i]), -1);
            DUE.is("refused", refused(x), i + 1);
            DUE.is("it stays", x.needle(0, 3), 0);
        }
        DUE.is("acts", x.count(4), 6);
        DUE.is("the other one stays", x.needle(1, 3), 0);
    }

    /** "CARRIED: 100 by Y and X, as it was. NONE (STATUS 1): no such place." */
    private static void carryBounds() {
        SaucerFair x = Due.of("needle 40 40 9 9;needle 39 40 1 1;");
        int before = 4040;
        int[][] places = {{0, 0}, {40, 0}, {0, 40}, {40, 40}, {1, 39}, {39, 1}, {39, 1}};
        for (int[] place : places) {
            DUE.is("as it was", x.carry(0, place[0], place[1]), before);
            DUE.is("X", x.needle(0, 0), place[0]);
            DUE.is("Y", x.needle(0, 1), place[1]);
            before = 100 * place[1] + place[0];
        }
        DUE.is("acts, one without a change too", x.count(4), 7);
        int[][] wrong = {{-1, 0}, {0, -1}, {41, 0}, {0, 41}, {41, 41}, {-1, -1}, {40, 41}, {41, 40},
            {Integer.MIN_VALUE, 0}, {0, Integer.MIN_VALUE}, {Integer.MAX_VALUE, 0}, {0, Integer.MAX_VALUE}};
        for (int i = 0; i < wrong.length; i++) {
            DUE.is("carry to " + wrong[i][0] + ", " + wrong[i][1], x.carry(0, wrong[i][0], wrong[i][1]), -1);
            DUE.is("refused", refused(x), i + 1);
            DUE.is("it stays", x.needle(0, 0) * 100 + x.needle(0, 1), 3901);
        }
        DUE.is("acts", x.count(4), 7);
        DUE.is("the other one stays", x.needle(1, 0) * 100 + x.needle(1, 1), 3940);
        DUE.is("REACH and RUST stay", x.needle(0, 2) * 10 + x.needle(0, 3), 99);
    }

    /** "there may be others". */
    private static void carryToWhereAnotherIs() {
        SaucerFair x = Due.of(FAIR + "says 5 0 1;");
        DUE.is("to the other needle", x.carry(1, 10, 10), 2010);
        DUE.is("both show alike", x.shows(0, 5) * 10 + x.shows(1, 5), 66);
        DUE.is("to its own place", x.carry(1, 10, 10), 1010);
        DUE.is("to somebody's place", x.carry(1, 0, 10), 1010);
        DUE.is("it lies FLAT there", x.shows(1, 5), 8);
        DUE.is("none is refused", refused(x), 0);
    }

    /** "(as if it had always been there ..)": what was said ahead of it counts from there, too. */
    private static void carriedAsIfAlwaysThere() {
        SaucerFair x = Due.of("one 0 10 1;one 20 10 2;needle 10 10 10 0;says 0 0 1;says 99 1 1;");
        DUE.is("hears both", x.needle(0, 4), 3);
        x.carry(0, 11, 10);
        DUE.is("the left one is out of reach", x.needle(0, 4), 2);
        DUE.is("nothing in hour 0", x.shows(0, 0), -1);
        DUE.is("right in hour 99", x.shows(0, 99), 2);
        x.undo();
        DUE.is("hears both again", x.needle(0, 4), 3);
        DUE.is("left in hour 0", x.shows(0, 0), 6);
        x.carry(0, 10, 11);
        DUE.is("10 far still", x.needle(0, 4), 3);
    }

    // ---- UNDONE

    private static void refusedActsAreNoActs() {
        SaucerFair x = new SaucerFair();
        x.back();
        DUE.is("back of none", x.undo(), -1);
        SaucerFair y = Due.of(FAIR);
        y.rust(0, 5);
        y.rust(0, 10);
        y.carry(0, 41, 0);
        y.tell(100, 0, 0);
        y.back();
        DUE.is("refused", refused(y), 4);
        DUE.is("acts", y.count(4), 1);
        DUE.is("undo", y.undo(), 0);
        DUE.is("rust is as it was", y.needle(0, 3), 0);
        DUE.is("none is left", y.undo(), -1);
    }

    /** "The last ACT is UNDONE: how many are left. NONE: there is none." */
    private static void undoDownToNone() {
        SaucerFair x = Due.of(FAIR);
        DUE.is("none", x.undo(), -1);
        x.tell(3, 0, 4);
        DUE.is("the only one", x.undo(), 0);
        DUE.is("none again", x.undo(), -1);
        DUE.is("none, though not refused", refused(x), 0);
        DUE.is("sayings", x.count(2), 0);
        x.rust(1, 7);
        x.carry(1, 3, 4);
        DUE.is("the last one first", x.undo(), 1);
        DUE.is("its place", x.needle(1, 0) * 100 + x.needle(1, 1), 1020);
        DUE.is("its rust stays", x.needle(1, 3), 7);
        DUE.is("the first", x.undo(), 0);
        DUE.is("its rust", x.needle(1, 3), 0);
    }

    /** "ACTS (at most 40 are kept, the latest ones)". */
    private static void fortyAreKept() {
        for (int made : new int[] {39, 40, 41, 42, 79, 80, 81, 120}) {
            SaucerFair x = Due.of(FAIR);
            for (int i = 1; i <= made; i++) {
                x.carry(0, i % 41, i / 41);
                DUE.is("kept of " + i, x.count(4), Math.min(i, 40));
            }
            int kept = Math.min(made, 40);
            for (int i = 1; i <= kept; i++) {
                DUE.is("left", x.undo(), kept - i);
                int at = made - i;
                int want = at == 0 ? 1010 : at % 41 * 100 + at / 41;
                DUE.is("where it was behind " + at, x.needle(0, 0) * 100 + x.needle(0, 1), want);
            }
            DUE.is("none is left of " + made, x.undo(), -1);
            DUE.is("acts", x.count(4), 0);
        }
    }

    /** The eldest is forgotten, whatever it was, and stays as it was done. */
    private static void eachKindAsTheFortyFirst() {
        for (int kind = 0; kind < 4; kind++) {
            SaucerFair x = Due.of(FAIR + "says 5 0 1;says 6 1 2;");
            DUE.isTrue("an act", act(x, kind) != -1);
            for (int i = 0; i < 40; i++) {
                x.rust(0, i % 9 + 1);
            }
            for (int i = 39; i >= 0; i--) {
                DUE.is("undo", x.undo(), i);
            }
            DUE.is("none is left", x.undo(), -1);
            DUE.is("RUST of the other one", x.needle(0, 3), 0);
            DUE.is("sayings", x.count(2), kind == 0 ? 3 : kind == 1 ? 1 : 2);
            DUE.is("rust", x.needle(1, 3), kind == 2 ? 6 : 0);
            DUE.is("place", x.needle(1, 0) * 100 + x.needle(1, 1), kind == 3 ? 304 : 1020);
            SaucerFair y = Due.of(FAIR + "says 5 0 1;says 6 1 2;");
            act(y, kind);
            for (int i = 0; i < 39; i++) {
                y.rust(0, i % 9 + 1);
            }
            for (int i = 39; i >= 0; i--) {
                DUE.is("undo", y.undo(), i);
            }
            DUE.is("all is undone", y.count(2) * 10 + y.needle(1, 3), 20);
            DUE.is("its place, too", y.needle(1, 0) * 100 + y.needle(1, 1), 1020);
            DUE.is("the last saying", y.saying(1, 0) * 100 + y.saying(1, 1) * 10 + y.saying(1, 2), 612);
        }
    }

    private static int act(SaucerFair x, int kind) {
        return kind == 0 ? x.tell(9, 2, 9) : kind == 1 ? x.back() : kind == 2 ? x.rust(1, 6) : x.carry(1, 3, 4);
    }

    private static void undoIsNoAct() {
        SaucerFair x = Due.of(FAIR);
        x.tell(1, 0, 1);
        x.tell(2, 1, 2);
        DUE.is("undo", x.undo(), 1);
        DUE.is("undo goes on", x.undo(), 0);
        DUE.is("sayings", x.count(2), 0);
        DUE.is("no more", x.undo(), -1);
    }

    private static void actsBehindAnUndo() {
        SaucerFair x = Due.of(FAIR);
        x.rust(0, 1);
        x.rust(0, 2);
        x.undo();
        x.rust(0, 3);
        DUE.is("acts", x.count(4), 2);
        DUE.is("undo", x.undo(), 1);
        DUE.is("rust", x.needle(0, 3), 1);
        DUE.is("undo", x.undo(), 0);
        DUE.is("rust", x.needle(0, 3), 0);
        for (int i = 0; i < 45; i++) {
            x.rust(1, i % 10);
        }
        for (int i = 0; i < 5; i++) {
            x.undo();
        }
        DUE.is("35 are left", x.count(4), 35);
        for (int i = 0; i < 5; i++) {
            x.tell(i, 0, 1);
        }
        DUE.is("40 again", x.count(4), 40);
        x.tell(5, 0, 1);
        DUE.is("40 still", x.count(4), 40);
        for (int i = 39; i >= 0; i--) {
            DUE.is("undo", x.undo(), i);
        }
        // acts 0 to 4 were forgotten first, then act 5: rust was 5 behind that
        DUE.is("rust behind those that are forgotten", x.needle(1, 3), 5);
        DUE.is("sayings", x.count(2), 0);
    }

    // ---- SEEN

    /** "SEEN (at most 8)", "NONE (STATUS 2): there are 8". */
    private static void seeUpToEight() {
        SaucerFair x = Due.of(FAIR);
        for (int i = 1; i <= 8; i++) {
            DUE.is("see", x.see(1, 0, -1), i);
            DUE.is("seen", x.count(5), i);
        }
        DUE.is("none is refused yet", x.count(9), 0);
        DUE.is("a ninth", x.see(0, 0, 3), -1);
        DUE.is("refused", x.count(9), 1);
        DUE.is("seen", x.count(5), 8);
        DUE.is("the ninth is not kept", x.planted(), 0);
        x.forget();
        DUE.is("all is forgotten", x.count(5), 0);
        DUE.is("the first again", x.see(0, 0, 3), 1);
        DUE.is("planted", x.planted(), 1);
        for (int i = 2; i <= 8; i++) {
            DUE.is("see again", x.see(1, 99, 0), i);
        }
        DUE.is("a ninth again", x.see(1, 99, -1), -1);
        DUE.is("both", x.planted(), 3);
        DUE.is("refused stays counted", x.count(9), 2);
        x.forget();
        x.forget();
        DUE.is("forgotten twice", x.count(5), 0);
        SaucerFair y = Due.of(FAIR);
        for (int i = 1; i <= 7; i++) {
            y.see(0, 0, -1);
        }
        y.see(1, 0, 7);
        DUE.is("the eighth counts", y.planted(), 2);
    }

    /** "NONE (STATUS 2): .. not NONE to 9. NoSuchElementException (ahead): no such NEEDLE, HOUR." */
    private static void seeBounds() {
        SaucerFair x = Due.of(FAIR);
        int[] right = {-1, 0, 8, 9};
        for (int i = 0; i < right.length; i++) {
            DUE.is("see " + right[i], x.see(0, i % 2 * 99, right[i]), i + 1);
        }
        int[] wrong = {-2, 10, 11, Integer.MIN_VALUE, Integer.MAX_VALUE};
        for (int i = 0; i < wrong.length; i++) {
            DUE.is("see " + wrong[i], x.see(0, 0, wrong[i]), -1);
            DUE.is("refused", x.count(9), i + 1);
        }
        DUE.noSuch("needle 2, ahead", () -> x.see(2, 0, 10));
        DUE.noSuch("needle -1, ahead", () -> x.see(-1, 0, 10));
        DUE.noSuch("hour 100, ahead", () -> x.see(0, 100, 10));
        DUE.noSuch("hour -1, ahead", () -> x.see(0, -1, 10));
        for (int i = 5; i <= 8; i++) {
            x.see(1, 1, 1);
        }
        DUE.noSuch("needle 2, ahead of the ninth", () -> x.see(2, 0, 1));
        DUE.noSuch("hour 100, ahead of the ninth", () -> x.see(0, 100, 1));
        DUE.is("refused", x.count(9), 5);
        DUE.is("both at once are one call", x.see(0, 0, 10), -1);
        DUE.is("refused then", x.count(9), 6);
    }

    private static void seeingIsNoAct() {
        SaucerFair x = Due.of(FAIR);
        x.see(0, 0, 3);
        DUE.is("acts", x.count(4), 0);
        DUE.is("undo", x.undo(), -1);
        DUE.is("seen stays", x.count(5), 1);
        x.rust(0, 4);
        x.forget();
        DUE.is("acts stay", x.count(4), 1);
        x.undo();
        DUE.is("what is forgotten stays so", x.count(5), 0);
    }

    // ---- STATUS

    /** "STATUS: how many calls were refused: 0 of TEXTS with a FAULT, 1 of ACTS, 2 of what is SEEN." */
    private static void statusCountsEachKind() {
        SaucerFair x = Due.of(FAIR);
        for (int i = 1; i <= 12; i++) {
            Due.read(x, "x");
            DUE.is("texts", x.count(7), i);
        }
        for (int i = 1; i <= 12; i++) {
            x.back();
            DUE.is("acts", x.count(8), i);
        }
        for (int i = 1; i <= 12; i++) {
            x.see(0, 0, 77);
            DUE.is("seen", x.count(9), i);
        }
        DUE.is("each alone", x.count(7) * 10000 + x.count(8) * 100 + x.count(9), 121212);
        Due.read(x, FAIR);
        x.tell(0, 0, 0);
        x.see(0, 0, 0);
        x.undo();
        x.undo();
        x.restore();
        x.plan(1, 0, 0);
        DUE.is("nothing else counts", x.count(7) * 10000 + x.count(8) * 100 + x.count(9), 121212);
    }

    /** "ACTS, what is SEEN, the image are gone (STATUS stays)." */
    private static void fairLeavesStatus() {
        SaucerFair x = Due.of(FAIR);
        Due.read(x, "x");
        x.back();
        x.back();
        x.see(0, 0, 77);
        x.tell(0, 0, 0);
        x.see(0, 0, 3);
        x.image();
        DUE.is("the same text", Due.read(x, FAIR), 0);
        DUE.is("STATUS", x.count(7) * 100 + x.count(8) * 10 + x.count(9), 121);
        DUE.is("acts", x.count(4), 0);
        DUE.is("undo", x.undo(), -1);
        DUE.is("seen", x.count(5), 0);
        DUE.isFalse("the image", x.restore());
        DUE.is("sayings", x.count(2), 0);
        x.image();
        DUE.isTrue("another image", x.restore());
        DUE.is("an empty text", x.fair(0), 0);
        DUE.isFalse("that is gone, too", x.restore());
    }

    /** "0, or the FAULT (all stays)". */
    private static void fairAndAFaultyFair() {
        SaucerFair x = Due.of(FAIR + "turns degree=9;court points*2+said;says 3 0 9;");
        x.tell(4, 1, 9);
        x.see(0, 4, 2);
        x.image();
        x.tell(5, 1, 9);
        DUE.is("accused", x.accused(4), 1);
        String[] faulty = {"one 7 7 7;needle 7 7 7 7;turns 1;court 1;says 7 0 7;#", "#", "turns 1;turns 1;", "one 1 1 1", "court"};
        for (String text : faulty) {
            DUE.isTrue("a FAULT", Due.read(x, text) > 0);
            DUE.is("people, needles, sayings", x.count(0) * 100 + x.count(1) * 10 + x.count(2), 323);
            DUE.is("X", x.one(0, 0), 0);
            DUE.is("acts", x.count(4), 2);
            DUE.is("seen", x.count(5), 1);
            DUE.is("planted", x.planted(), 0);
            DUE.is("TURNS", x.needle(0, 4), 7);
            DUE.is("shown", x.shows(0, 3) * 10 + x.shows(0, 4), 62);
            DUE.is("COURT", x.accused(4), 1);
        }
        DUE.is("undo", x.undo(), 1);
        x.rust(0, 9);
        DUE.isTrue("the image", x.restore());
        DUE.is("sayings of the image", x.count(2), 2);
        DUE.is("rust of the image", x.needle(0, 3), 0);
    }

    // ---- image

    /** "False: there is none." */
    private static void imageOfNothing() {
        SaucerFair x = new SaucerFair();
        DUE.isFalse("none", x.restore());
        x.image();
        DUE.isTrue("of nobody", x.restore());
        DUE.isTrue("of nobody again", x.restore());
        DUE.is("nobody", x.count(0), 0);
        SaucerFair y = Due.of(FAIR);
        DUE.isFalse("none of a fair", y.restore());
        y.tell(0, 0, 1);
        DUE.isFalse("none still", y.restore());
        DUE.is("and nothing changes", y.count(2), 1);
        DUE.is("acts", y.count(4), 1);
    }

    /** "in place of another one". */
    private static void imageInPlaceOfAnother() {
        SaucerFair x = Due.of(FAIR);
        x.tell(1, 0, 1);
        x.image();
        x.tell(2, 0, 1);
        x.image();
        x.tell(3, 0, 1);
        DUE.isTrue("restore", x.restore());
        DUE.is("sayings of the second image", x.count(2), 2);
        x.undo();
        x.undo();
        x.image();
        x.tell(4, 1, 1);
        DUE.isTrue("restore", x.restore());
        DUE.is("sayings of the third image", x.count(2), 0);
        DUE.is("its acts", x.count(4), 0);
        DUE.is("it shows nothing", x.shows(0, 99), -1);
    }

    private static void restoreAgainAndAgain() {
        SaucerFair x = Due.of(FAIR + "says 5 0 1;");
        x.image();
        for (int i = 0; i < 3; i++) {
            x.back();
            x.rust(0, 9);
            x.carry(1, i, i);
            x.see(0, 0, 0);
            DUE.isTrue("restore", x.restore());
            DUE.is("sayings, acts, seen", x.count(2) * 100 + x.count(4) * 10 + x.count(5), 100);
            DUE.is("rust", x.needle(0, 3), 0);
            DUE.is("place", x.needle(1, 0) * 100 + x.needle(1, 1), 1020);
            DUE.is("shown", x.shows(0, 5), 6);
        }
    }

    /** Every SAYING, NEEDLE, ACT and SEEN of full rows comes back, the last of each, too. */
    private static void restoreOfFullRows() {
        StringBuilder text = new StringBuilder("one 0 0 0;one 40 40 9;");
        for (int i = 0; i < 6; i++) {
            text.append("needle ").append(i).append(" 7 9 ").append(i).append(";");
        }
        SaucerFair x = Due.of(text.toString());
        for (int i = 0; i < 16; i++) {
            x.tell(i * 6, i % 2, i % 10);
        }
        // none of these is so but the eighth, of a needle that has no other: in hour 95 it still shows what it does
        for (int i = 0; i < 7; i++) {
            x.see(i % 5, 0, 9);
        }
        x.see(5, 95, x.shows(5, 95));
        DUE.is("planted", x.planted(), 31);
        x.image();
        for (int i = 0; i < 16; i++) {
            x.back();
        }
        for (int i = 0; i < 16; i++) {
            x.tell(99 - i, 1 - i % 2, 9 - i % 10);
        }
        for (int n = 0; n < 6; n++) {
            x.rust(n, 9);
            x.carry(n, 40, 40 - n);
        }
        x.forget();
        for (int i = 0; i < 8; i++) {
            x.see(0, 3, 9);
        }
        DUE.isTrue("restore", x.restore());
        for (int i = 0; i < 16; i++) {
            DUE.is("hour", x.saying(i, 0), i * 6);
            DUE.is("who", x.saying(i, 1), i % 2);
            DUE.is("degree", x.saying(i, 2), i % 10);
        }
        for (int n = 0; n < 6; n++) {
            DUE.is("place", x.needle(n, 0) * 100 + x.needle(n, 1), n * 100 + 7);
            DUE.is("reach, rust", x.needle(n, 2) * 10 + x.needle(n, 3), 90 + n);
        }
        DUE.is("seen", x.count(5), 8);
        DUE.is("planted", x.planted(), 31);
        x.rust(5, 9);
        DUE.is("the eighth is not so any more", x.planted(), 63);
        x.undo();
        DUE.is("a ninth", x.see(0, 0, 0), -1);
        DUE.is("a 17th", x.tell(0, 0, 0), -1);
        for (int i = 15; i >= 0; i--) {
            DUE.is("undo", x.undo(), i);
            DUE.is("sayings", x.count(2), i);
        }
    }

    /** STATUS, the tape and fault() are not of the image. */
    private static void restoreLeavesTheRest() {
        SaucerFair x = Due.of(FAIR + "turns degree=1;court skill;");
        x.image();
        Due.read(x, "  x");
        x.back();
        x.see(0, 0, 77);
        Due.feed(x, "one 1 1 1;");
        DUE.isTrue("restore", x.restore());
        DUE.is("STATUS", x.count(7) * 100 + x.count(8) * 10 + x.count(9), 111);
        DUE.is("fault", x.fault(), 2);
        DUE.is("the tape", x.count(6), 20);
        DUE.is("COURT", x.accused(0), 2);
        x.tell(0, 0, 2);
        DUE.is("TURNS", x.needle(0, 4), 0);
    }

    private static void imageOfFortyActs() {
        SaucerFair x = Due.of(FAIR);
        for (int i = 0; i < 43; i++) {
            x.carry(0, i % 41, 5);
        }
        x.image();
        for (int i = 0; i < 25; i++) {
            x.undo();
        }
        for (int i = 0; i < 30; i++) {
            x.rust(1, i % 10);
        }
        DUE.isTrue("restore", x.restore());
        DUE.is("acts", x.count(4), 40);
        DUE.is("one more", x.rust(1, 3), 0);
        DUE.is("acts still", x.count(4), 40);
        DUE.is("undo it", x.undo(), 39);
        for (int i = 38; i >= 0; i--) {
            DUE.is("where it is", x.needle(0, 0) * 100 + x.needle(0, 1), (i + 4) % 41 * 100 + 5);
            DUE.is("undo", x.undo(), i);
        }
        // 43 and one more: the first four are forgotten, the fourth of them having carried it to 3, 5
        DUE.is("where it was", x.needle(0, 0) * 100 + x.needle(0, 1), 305);
        DUE.is("none is left", x.undo(), -1);
        DUE.is("the other one's RUST stays", x.needle(1, 3), 0);
        DUE.isTrue("restore", x.restore());
        for (int i = 39; i >= 0; i--) {
            DUE.is("where it is again", x.needle(0, 0) * 100 + x.needle(0, 1), (i + 3) % 41 * 100 + 5);
            DUE.is("undo again", x.undo(), i);
        }
    }

    /** "An object is used for at most 512 calls": the last of them answer as the first. */
    private static void fiveHundredAndTwelveCalls() {
        SaucerFair x = new SaucerFair();
        int calls = 0;
        String text = FAIR + "says 5 0 1;";
        for (int at = 0; at < text.length(); at += 20) {
            calls++;
        }
        DUE.is("fair", Due.read(x, text), 0);
        // Due.feed asks count(6) once, ahead of it
        calls += 2;
        for (int round = 0; calls + 6 <= 510; round++) {
            DUE.is("tell", x.tell(round % 95 + 5, 1, 9), 1);
            DUE.is("carry", x.carry(1, round % 41, 40), round == 0 ? 2010 : 4000 + (round - 1) % 41);
            DUE.is("shows", x.shows(0, 99), round % 95 == 0 ? 9 : 2);
            DUE.is("rust", x.rust(0, round % 9), round == 0 ? 0 : (round - 1) % 9);
            DUE.is("back", x.back(), 1);
            DUE.is("acts", x.count(4), Math.min(4 * round + 4, 40));
            calls += 6;
        }
        while (calls < 511) {
            DUE.is("sayings", x.count(2), 1);
            calls++;
        }
        DUE.is("the 512th call", x.undo(), 39);
    }
}
