/** Promises 1 and 5 to 13: what there is, what is HEARD and SHOWN, at whom it POINTS, whom a COURT ACCUSES. */
final class FairTest {
    private static final Due DUE = new Due("FairTest");
    // one at the needle's place, one to its left, one to its right
    private static final String LINE = "one 10 10 2;one 0 10 4;one 20 10 6;needle 10 10 40 0;";

    public static void main(String[] args) {
        nobody();
        counts();
        people();
        hearing();
        turning();
        showing();
        lasting();
        sides();
        pointing();
        plainCourt();
        ruledCourt();
        DUE.end();
    }

    private static void nobody() {
        SaucerFair x = new SaucerFair();
        for (int what = 0; what <= 9; what++) {
            DUE.is("count " + what, x.count(what), 0);
        }
        DUE.is("last hour", x.count(10), -1);
        DUE.is("most lies", x.count(11), 0);
        DUE.noSuch("person 0", () -> x.one(0, 0));
        DUE.noSuch("needle 0", () -> x.needle(0, 0));
        DUE.noSuch("saying 0", () -> x.saying(0, 0));
        DUE.noSuch("shows", () -> x.shows(0, 0));
        DUE.noSuch("last", () -> x.last(0, 0));
        DUE.noSuch("points", () -> x.points(0, 0));
        DUE.is("accused", x.accused(0), -1);
        DUE.is("back", x.back(), -1);
        DUE.is("that is a refused act", x.count(8), 1);
    }

    private static void counts() {
        SaucerFair x = Due.of("one 1 1 0;one 2 2 0;needle 1 1 5 0;says 7 0 3;says 5 1 0;says 7 1 9;says 5 0 1;says 9 0 0;");
        DUE.is("people", x.count(0), 2);
        DUE.is("needles", x.count(1), 1);
        DUE.is("sayings", x.count(2), 5);
        DUE.is("lies", x.count(3), 3);
        DUE.is("last hour, though it is true", x.count(10), 9);
        DUE.is("most lies of one hour", x.count(11), 2);
        x.undo();
        DUE.noSuch("count -1", () -> x.count(-1));
        DUE.noSuch("count 12", () -> x.count(12));
        DUE.noSuch("count least", () -> x.count(Integer.MIN_VALUE));
        SaucerFair y = Due.of("one 1 1 0;says 50 0 1;says 3 0 1;");
        DUE.is("the last hour, not the last saying's", y.count(10), 50);
        Due.feed(y, "x");
        DUE.is("bytes", y.count(6), 20);
    }

    private static void people() {
        SaucerFair x = Due.of("one 1 2 3;one 9 2 0;needle 1 8 6 9;needle 5 2 5 0;needle 9 10 7 0;says 0 1 0;says 1 0 4;says 2 1 4;");
        DUE.is("X", x.one(0, 0), 1);
        DUE.is("Y", x.one(0, 1), 2);
        DUE.is("SKILL", x.one(0, 2), 3);
        DUE.is("his sayings", x.one(0, 3), 2);
        DUE.is("her sayings", x.one(1, 3), 5);
        DUE.is("in reach: 6 of 6, 4 of 5, 8 of 7", x.one(0, 4), 3);
        DUE.is("in reach: 8 of 6, 4 of 5, 8 of 7", x.one(1, 4), 2);
        DUE.noSuch("one 2", () -> x.one(2, 0));
        DUE.noSuch("one -1", () -> x.one(-1, 0));
        DUE.noSuch("one what 5", () -> x.one(0, 5));
        DUE.noSuch("one what -1", () -> x.one(0, -1));
        DUE.is("needle X", x.needle(0, 0), 1);
        DUE.is("needle Y", x.needle(0, 1), 8);
        DUE.is("needle REACH", x.needle(0, 2), 6);
        DUE.is("needle RUST", x.needle(0, 3), 9);
        DUE.noSuch("needle 3", () -> x.needle(3, 0));
        DUE.noSuch("needle -1", () -> x.needle(-1, 0));
        DUE.noSuch("needle what 7", () -> x.needle(0, 7));
        DUE.noSuch("needle what -1", () -> x.needle(0, -1));
        DUE.is("saying's hour", x.saying(2, 0), 2);
        DUE.is("who", x.saying(2, 1), 1);
        DUE.is("degree", x.saying(2, 2), 4);
        DUE.noSuch("saying 3", () -> x.saying(3, 0));
        DUE.noSuch("saying -1", () -> x.saying(-1, 0));
        DUE.noSuch("saying what 4", () -> x.saying(0, 4));
        DUE.noSuch("saying what -1", () -> x.saying(0, -1));
    }

    private static void hearing() {
        SaucerFair x = Due.of("one 0 0 0;one 6 0 0;needle 0 5 5 3;needle 1 5 5 4;says 1 0 4;says 1 1 9;says 2 0 3;says 3 0 0;");
        DUE.is("far 5, degree over 3", x.needle(0, 4), 1);
        DUE.is("rust 4: degree 9 from far 5", x.needle(1, 4), 2);
        DUE.is("heard by", x.saying(0, 3), 1);
        DUE.is("heard by the other", x.saying(1, 3), 2);
        DUE.is("heard by none", x.saying(2, 3), 0);
        DUE.is("true", x.saying(3, 3), 0);
    }

    private static void turning() {
        String fair = "one 0 0 7;needle 3 4 5 6;says 8 0 9;says 9 0 0;turns ";
        String[] values = {"degree=9", "skill=7", "far=4", "reach=5", "rust=6", "hour=8"};
        for (String value : values) {
            DUE.is(value, Due.of(fair + value + ";").needle(0, 4), 1);
            DUE.is("not " + value, Due.of(fair + "not " + value + ";").needle(0, 4), 0);
        }
        DUE.is("far, rusty, but turns says so; never what is true", Due.of(fair + "1;").needle(0, 4), 1);
        DUE.is("0", Due.of(fair + "0;").needle(0, 4), 0);
        DUE.is("below 0", Due.of(fair + "0-5;").needle(0, 4), 0);
        DUE.is("well above 0", Due.of(fair + "5;").needle(0, 4), 1);
    }

    private static void showing() {
        SaucerFair x = Due.of(LINE + "says 5 2 0;says 1 0 5;says 2 1 5;says 2 2 5;says 3 1 1;says 3 2 1;says 3 1 1;says 4 0 1;says 4 1 1;");
        DUE.is("nothing yet", x.shows(0, 0), -1);
        DUE.is("flat", x.shows(0, 1), 8);
        DUE.is("spins", x.shows(0, 2), 9);
        DUE.is("one who says two counts twice", x.shows(0, 3), 6);
        DUE.is("not flat, for one way is not 0, 0", x.shows(0, 4), 6);
        DUE.is("what is true turns nothing", x.shows(0, 5), 6);
        DUE.is("it stays", x.shows(0, 99), 6);
        DUE.is("quivers", x.needle(0, 5), 3);
        // +1 flat at his place; -2 spinning; +2 -1 to the left; -1 +1 at its own place and to the left
        DUE.is("worth", x.needle(0, 6), 0);
        DUE.noSuch("shows needle 1", () -> x.shows(1, 0));
        DUE.noSuch("shows hour 100", () -> x.shows(0, 100));
        DUE.noSuch("shows hour -1", () -> x.shows(0, -1));
        SaucerFair z = Due.of(LINE + "says 0 1 5;says 99 2 5;");
        DUE.is("hour 0 is no quiver, hour 99 is", z.needle(0, 5), 1);
        DUE.is("hour 98", z.shows(0, 98), 6);
        DUE.is("hour 99", z.shows(0, 99), 2);
        SaucerFair w = Due.of(LINE + "says 1 0 5;says 2 0 5;says 4 0 1;says 4 1 1;says 4 2 1;");
        DUE.is("spins, though one way is 0, 0", w.shows(0, 4), 9);
        DUE.is("two flat, three not", w.needle(0, 6), -1);
    }

    private static void lasting() {
        SaucerFair x = Due.of(LINE + "says 30 1 5;says 10 2 5;says 20 1 0;");
        DUE.is("none yet", x.last(0, 9), -1);
        DUE.is("in its hour", x.last(0, 10), 10);
        DUE.is("what is true is not heard", x.last(0, 29), 10);
        DUE.is("the later hour, told ahead", x.last(0, 30), 30);
        DUE.is("at the end", x.last(0, 99), 30);
        DUE.noSuch("last needle 1", () -> x.last(1, 0));
        DUE.noSuch("last hour 100", () -> x.last(0, 100));
        DUE.noSuch("last hour -1", () -> x.last(0, -1));
    }

    private static void side(int a, int b, int want) {
        DUE.is("side " + a + " " + b, new SaucerFair().side(a, b), want);
    }

    private static void sides() {
        side(0, 0, 8);
        side(5, 2, 2);
        side(4, 2, 3);
        side(4, -2, 1);
        side(5, -2, 2);
        side(2, -5, 0);
        side(2, -4, 1);
        side(-2, -4, 7);
        side(-4, -2, 7);
        side(-5, -2, 6);
        side(-5, 2, 6);
        side(-4, 2, 5);
        side(-2, 4, 5);
        side(-2, 5, 4);
        side(2, 5, 4);
        side(2, 4, 3);
        side(0, 1, 4);
        side(0, -1, 0);
        side(1, 0, 2);
        side(-1, 0, 6);
        int least = Integer.MIN_VALUE;
        int most = Integer.MAX_VALUE;
        side(least, least, 7);
        side(least, most, 5);
        side(most, least, 1);
        side(most, most, 3);
        side(least, 1 << 30, 5);
        side(least, (1 << 30) - 1, 6);
        side(1 << 30, least, 1);
        side((1 << 30) - 1, least, 0);
        side(0, least, 0);
        side(most, 1, 2);
    }

    private static void pointing() {
        SaucerFair x = Due.of("one 10 10 0;one 20 10 0;one 20 6 0;one 12 11 0;one 12 14 0;needle 10 10 40 0;needle 20 20 5 0;says 3 1 1;");
        DUE.is("before", x.points(1, 2), 0);
        DUE.is("at who is there", x.points(0, 3), 0);
        DUE.is("at who lied", x.points(1, 3), 1);
        DUE.is("at another on that side", x.points(2, 3), 1);
        DUE.is("at none whose way is twice as far", x.points(3, 3), 0);
        DUE.is("at none elsewhere", x.points(4, 50), 0);
        DUE.noSuch("points person 5", () -> x.points(5, 0));
        DUE.noSuch("points hour 100", () -> x.points(0, 100));
        DUE.noSuch("points hour -1", () -> x.points(0, -1));
        SaucerFair flat = Due.of(LINE + "says 0 0 1;says 1 1 1;says 1 2 1;");
        DUE.is("a flat one points at nobody, not at who is there", flat.points(0, 0), 0);
        DUE.is("a spinning one", flat.points(1, 1) + flat.points(2, 1), 0);
    }

    private static void plainCourt() {
        SaucerFair x = Due.of("one 0 5 0;one 10 5 0;needle 5 5 9 0;needle 5 6 9 0;says 1 1 1;says 2 0 1;");
        DUE.is("nobody", x.accused(0), -1);
        DUE.is("who lied", x.accused(1), 1);
        DUE.is("the other one", x.accused(2), 0);
        DUE.is("later", x.accused(99), 0);
        DUE.noSuch("accused 100", () -> x.accused(100));
        DUE.noSuch("accused -1", () -> x.accused(-1));
        SaucerFair like = Due.of("one 20 5 0;one 10 5 0;needle 5 5 60 0;says 1 1 1;");
        DUE.is("of like ones the least", like.accused(1), 0);
    }

    private static void ruledCourt() {
        SaucerFair flat = Due.of(LINE + "court flat;says 1 0 1;says 2 1 1;");
        DUE.is("flat at his place", flat.accused(1), 0);
        DUE.is("not flat any more", flat.accused(2), -1);
        SaucerFair said = Due.of("one 1 1 1;one 2 2 2;court said;says 3 0 0;says 5 1 0;says 5 1 4;");
        DUE.is("nothing was said", said.accused(2), -1);
        DUE.is("true ones count", said.accused(3), 0);
        DUE.is("up to that hour", said.accused(4), 0);
        DUE.is("most", said.accused(5), 1);
        SaucerFair skill = Due.of("one 1 1 1;one 2 2 7;one 3 3 7;court skill*(hour=4);");
        DUE.is("most skill, of like ones the least", skill.accused(4), 1);
        DUE.is("not above 0", skill.accused(3), -1);
        SaucerFair below = Due.of("one 1 1 1;court 0-1;");
        DUE.is("below 0", below.accused(0), -1);
        SaucerFair points = Due.of("one 0 5 0;one 10 5 0;one 7 5 0;needle 5 5 9 0;needle 5 6 9 0;court 10*points-9;says 1 1 1;");
        DUE.is("points", points.accused(1), 1);
        DUE.is("points not told", points.accused(0), -1);
    }
}
