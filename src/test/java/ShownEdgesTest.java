/** The edges of promises 1 and 5 to 13: what is HEARD, SHOWN, pointed at, who is ACCUSED, what an EXPR gives. */
final class ShownEdgesTest {
    private static final Due DUE = new Due("ShownEdgesTest");
    /** To the left of the needle, to its right, at its place, above it, below it. */
    private static final String ROUND = "one 0 10 1;one 20 10 2;one 10 10 3;one 10 0 4;one 10 20 5;needle 10 10 40 0;";

    public static void main(String[] args) {
        aNewObject();
        countsFromNoneToFull();
        bitsOfThoseWithTheHighestNumbers();
        farIsTheGreaterDifference();
        hearsUpToItsReach();
        hearsAboveItsRust();
        hearsIfTurnsGivesMoreThanNothing();
        neverHearsWhatIsTrue();
        showsFromItsHourOn();
        showsByTheLastHourAlone();
        whoSaysTwoCountsTwice();
        flatOrSpinning();
        sidesAtTwiceAsMuch();
        sidesOfTheGreatestWays();
        sidesOfAllPlaces();
        pointsAtWhoIsNotAtItsPlace();
        pointsAtAllOfASide();
        accusesIfAboveNothing();
        accusesTheLeastOfLikeOnes();
        accusesByWhatIsPointedAt();
        valuesOfTheCourt();
        saidUpToTheHour();
        numbersWrap();
        divisionCutsDown();
        testsAtTheBoundary();
        DUE.end();
    }

    private static void aNewObject() {
        SaucerFair x = new SaucerFair();
        for (int what = 0; what <= 11; what++) {
            DUE.is("count " + what, x.count(what), what == 10 ? -1 : 0);
        }
        DUE.is("fault", x.fault(), -1);
        DUE.is("accused in hour 0", x.accused(0), -1);
        DUE.is("accused in hour 99", x.accused(99), -1);
        DUE.is("clash", x.clash(), -1);
        DUE.is("truest", x.truest(), -1);
        DUE.is("busiest", x.busiest(0), -1);
        DUE.is("how many", x.busiest(1), 0);
        DUE.is("undo", x.undo(), -1);
        DUE.is("back", x.back(), -1);
        DUE.isFalse("restore", x.restore());
        DUE.is("planted", x.planted(), 0);
        DUE.is("suspects", x.suspects(0), 0);
        DUE.is("spots", x.spots(0, 0), 1681);
        DUE.is("apart", x.apart(1, 0), 0);
        DUE.is("ears", x.ears(1, 0), 0);
        DUE.is("plan", x.plan(0, 0, 0), 0);
        DUE.illegal("plan of a needle", () -> x.plan(1, 0, 0));
        DUE.is("saucer", x.saucer(0, 0, 0), 0);
        DUE.illegal("saucer of one", () -> x.saucer(1, 0, 0));
        DUE.is("years", x.years(1, 99, 1), 0);
        x.forget();
        DUE.is("forgotten nothing", x.count(5), 0);
    }

    private static void countsFromNoneToFull() {
        String text = "one 1 1 0;";
        for (int n = 0; n <= 16; n++) {
            SaucerFair lies = Due.of(text + "says 7 0 9;".repeat(n));
            DUE.is(n + " sayings", lies.count(2), n);
            DUE.is(n + " lies", lies.count(3), n);
            DUE.is(n + " lies of one hour", lies.count(11), n);
            DUE.is("the last hour of " + n, lies.count(10), n == 0 ? -1 : 7);
            SaucerFair trueOnes = Due.of(text + "says 7 0 0;".repeat(n));
            DUE.is(n + " true ones", trueOnes.count(2), n);
            DUE.is(n + " true ones are no lies", trueOnes.count(3), 0);
            DUE.is(n + " true ones of one hour", trueOnes.count(11), 0);
            DUE.is("the last hour of " + n + " true ones", trueOnes.count(10), n == 0 ? -1 : 7);
        }
        DUE.is("DEGREE 1 is a lie", Due.of(text + "says 7 0 1;").count(3), 1);
        DUE.is("the last hour is 0", Due.of(text + "says 0 0 1;").count(10), 0);
        DUE.is("the last hour is 99", Due.of(text + "says 99 0 1;says 0 0 1;").count(10), 99);
        SaucerFair hours = Due.of(text + "says 0 0 1;says 99 0 1;says 99 0 1;says 0 0 0;says 50 0 1;");
        DUE.is("most lies in hour 99", hours.count(11), 2);
    }

    private static void bitsOfThoseWithTheHighestNumbers() {
        StringBuilder text = new StringBuilder();
        for (int i = 0; i < 10; i++) {
            text.append("one ").append(i).append(" 0 0;");
        }
        for (int i = 0; i < 6; i++) {
            text.append("needle ").append(i).append(" 9 9 0;");
        }
        SaucerFair x = Due.of(text + "says 5 9 9;".repeat(16));
        DUE.is("all sixteen SAYINGS are his", x.one(9, 3), 0xffff);
        DUE.is("none is hers", x.one(0, 3), 0);
        DUE.is("six NEEDLES within reach", x.one(9, 4), 63);
        DUE.is("HEARD by all six", x.saying(15, 3), 63);
        DUE.is("the last NEEDLE HEARS all sixteen", x.needle(5, 4), 0xffff);
        DUE.is("all six POINT at him", x.points(9, 5), 63);
        x.rust(5, 9);
        DUE.is("HEARD by five", x.saying(0, 3), 31);
        DUE.is("the last NEEDLE HEARS none", x.needle(5, 4), 0);
    }

    // ---- HEARS

    private static boolean heard(int x, int y, int reach, int degree, int rust) {
        return Due.of("one " + x + " " + y + " 0;needle 20 20 " + reach + " " + rust + ";says 0 0 " + degree + ";").needle(0, 4) == 1;
    }

    /** "FAR is .. the greater of both differences, of X and of Y." */
    private static void farIsTheGreaterDifference() {
        int[][] within = {{20, 20}, {25, 20}, {15, 20}, {20, 25}, {20, 15}, {25, 25}, {15, 15}, {25, 15}, {15, 25}, {24, 25}, {25, 24}};
        for (int[] place : within) {
            DUE.isTrue("no farther than 5: " + place[0] + ", " + place[1], heard(place[0], place[1], 5, 9, 0));
        }
        int[][] beyond = {{26, 20}, {14, 20}, {20, 26}, {20, 14}, {26, 26}, {26, 25}, {25, 26}, {14, 15}, {15, 14}, {26, 14}, {40, 20}};
        for (int[] place : beyond) {
            DUE.isFalse("farther than 5: " + place[0] + ", " + place[1], heard(place[0], place[1], 5, 9, 0));
        }
        String corner = "one 40 40 0;needle 0 0 60 0;says 0 0 1;turns far=";
        DUE.is("FAR is 40 from corner to corner", Due.of(corner + "40;").needle(0, 4), 1);
        DUE.is("FAR 0", Due.of("one 40 40 0;needle 40 40 60 0;says 0 0 1;turns far=0;").needle(0, 4), 1);
    }

    /** "if FAR is no more than its REACH", for REACHES of 1 to 60; "NEEDLES that are no farther than their REACH". */
    private static void hearsUpToItsReach() {
        for (int reach = 1; reach <= 60; reach++) {
            SaucerFair x = Due.of("one 0 0 0;needle 0 0 " + reach + " 0;says 0 0 1;");
            for (int far = 0; far <= 40; far++) {
                x.carry(0, far, far / 2);
                DUE.is("FAR " + far + " of " + reach, x.needle(0, 4), far <= reach ? 1 : 0);
                DUE.is("within REACH: " + far + " of " + reach, x.one(0, 4), far <= reach ? 1 : 0);
            }
        }
        // REACH is as it is, whatever TURNS says, and DEGREE and RUST don't count there
        SaucerFair x = Due.of("one 0 0 0;needle 5 0 5 9;needle 6 0 5 0;turns 5<far;says 0 0 1;");
        DUE.is("within REACH", x.one(0, 4), 1);
        DUE.is("HEARD", x.saying(0, 3), 2);
    }

    /** "and DEGREE is more than its RUST", for all of both. */
    private static void hearsAboveItsRust() {
        for (int degree = 0; degree <= 9; degree++) {
            for (int rust = 0; rust <= 9; rust++) {
                DUE.is("DEGREE " + degree + ", RUST " + rust, heard(21, 20, 60, degree, rust) ? 1 : 0, degree > rust ? 1 : 0);
            }
        }
    }

    /** "if TURNS gives more than 0". */
    private static void hearsIfTurnsGivesMoreThanNothing() {
        String fair = "one 0 0 0;needle 40 40 1 9;says 0 0 1;turns ";
        String least = "2048*1024*1024";
        String[] some = {"1", "2", "9999", least + "-1"};
        for (String expr : some) {
            DUE.is(expr, Due.of(fair + expr + ";").needle(0, 4), 1);
        }
        String[] none = {"0", "0-1", "0-9999", least, least + "+1"};
        for (String expr : none) {
            DUE.is(expr, Due.of(fair + expr + ";").needle(0, 4), 0);
        }
    }

    /** "one that is true never." */
    private static void neverHearsWhatIsTrue() {
        DUE.is("by a rule", Due.of("one 0 0 0;needle 0 0 1 0;says 0 0 0;turns 1;").needle(0, 4), 0);
        DUE.is("by a rule, a lie of 1", Due.of("one 0 0 0;needle 0 0 1 0;says 0 0 1;turns 1;").needle(0, 4), 1);
        DUE.is("without one", Due.of("one 0 0 0;needle 0 0 1 0;says 0 0 0;").needle(0, 4), 0);
        DUE.is("it SHOWS nothing", Due.of("one 0 0 0;needle 0 0 1 0;says 0 0 0;turns degree=0;").shows(0, 99), -1);
    }

    // ---- SHOWS

    /** "What it SHOWS in an HOUR goes by the last HOUR, up to that one", "nothing, if it HEARS none up to then". */
    private static void showsFromItsHourOn() {
        for (int told : new int[] {0, 1, 50, 98, 99}) {
            SaucerFair x = Due.of(ROUND + "says " + told + " 1 1;");
            for (int hour = 0; hour <= 99; hour++) {
                DUE.is("told in " + told + ", shown in " + hour, x.shows(0, hour), hour < told ? -1 : 2);
                DUE.is("told in " + told + ", last in " + hour, x.last(0, hour), hour < told ? -1 : told);
                DUE.is("told in " + told + ", points in " + hour, x.points(1, hour), hour < told ? 0 : 1);
                DUE.is("told in " + told + ", accused in " + hour, x.accused(hour), hour < told ? -1 : 1);
            }
        }
    }

    private static void showsByTheLastHourAlone() {
        SaucerFair x = Due.of(ROUND + "says 11 1 1;says 10 0 1;says 10 3 1;says 12 4 0;");
        DUE.is("hour 9", x.shows(0, 9), -1);
        DUE.is("hour 10: left and above", x.shows(0, 10), 7);
        DUE.is("hour 11: right alone", x.shows(0, 11), 2);
        DUE.is("hour 12: what is true turns nothing", x.shows(0, 12), 2);
        DUE.is("last of hour 10", x.last(0, 10), 10);
        DUE.is("last of hour 12", x.last(0, 12), 11);
        SaucerFair rusty = Due.of(ROUND + "says 10 1 5;says 11 0 4;says 12 3 5;");
        rusty.rust(0, 4);
        DUE.is("what it doesn't HEAR turns nothing", rusty.shows(0, 11), 2);
        DUE.is("nor is it the last HOUR", rusty.last(0, 11), 10);
        DUE.is("what it HEARS does", rusty.shows(0, 12), 0);
    }

    /** "one who says two counts twice". */
    private static void whoSaysTwoCountsTwice() {
        DUE.is("one and one", Due.of(ROUND + "says 5 0 1;says 5 1 1;").shows(0, 5), 9);
        DUE.is("two and one", Due.of(ROUND + "says 5 0 1;says 5 1 1;says 5 0 9;").shows(0, 5), 6);
        DUE.is("two and two", Due.of(ROUND + "says 5 0 1;says 5 1 1;says 5 0 9;says 5 1 9;").shows(0, 5), 9);
        // 20 to the left, 10 up: not more than twice; 30 to the left: more
        DUE.is("twice as far", Due.of(ROUND + "says 5 0 1;says 5 0 1;says 5 3 1;").shows(0, 5), 7);
        DUE.is("three times as far", Due.of(ROUND + "says 5 0 1;says 5 0 1;says 5 0 1;says 5 3 1;").shows(0, 5), 6);
        DUE.is("sixteen", Due.of(ROUND + "says 5 0 1;".repeat(16)).shows(0, 5), 6);
    }

    /** "8 FLAT, if all these ways are 0, 0; 9 it SPINS, if not, but the sum is". */
    private static void flatOrSpinning() {
        DUE.is("one at its place", Due.of(ROUND + "says 5 2 1;").shows(0, 5), 8);
        DUE.is("twice at its place", Due.of(ROUND + "says 5 2 1;says 5 2 1;").shows(0, 5), 8);
        DUE.is("one of two at its place", Due.of(ROUND + "says 5 2 1;says 5 0 1;").shows(0, 5), 6);
        DUE.is("left and right", Due.of(ROUND + "says 5 0 1;says 5 1 1;").shows(0, 5), 9);
        DUE.is("above and below", Due.of(ROUND + "says 5 3 1;says 5 4 1;").shows(0, 5), 9);
        DUE.is("all four, and at its place", Due.of(ROUND + "says 5 0 1;says 5 1 1;says 5 2 1;says 5 3 1;says 5 4 1;").shows(0, 5), 9);
        DUE.is("X alone is 0", Due.of(ROUND + "says 5 0 1;says 5 1 1;says 5 4 1;").shows(0, 5), 4);
        DUE.is("Y alone is 0", Due.of(ROUND + "says 5 3 1;says 5 4 1;says 5 0 1;").shows(0, 5), 6);
        DUE.is("FLAT, then the other way", Due.of(ROUND + "says 5 2 1;says 6 0 1;").shows(0, 6), 6);
        DUE.is("FLAT again", Due.of(ROUND + "says 5 0 1;says 6 2 1;").shows(0, 6), 8);
    }

    private static void side(int a, int b, int want) {
        DUE.is("side " + a + ", " + b, new SaucerFair().side(a, b), want);
    }

    /** "A more than twice B: 2 .. B more than twice A: 4 .. else 1 .. 3 .. 5 .. 7". */
    private static void sidesAtTwiceAsMuch() {
        for (int b : new int[] {1, 2, 7, 1000, 1 << 29}) {
            int twice = 2 * b;
            for (int a : new int[] {twice + 1, twice + 2}) {
                side(a, b, 2);
                side(a, -b, 2);
                side(-a, b, 6);
                side(-a, -b, 6);
                side(b, a, 4);
                side(-b, a, 4);
                side(b, -a, 0);
                side(-b, -a, 0);
            }
            for (int a : new int[] {twice, twice - 1, b}) {
                side(a, -b, 1);
                side(a, b, 3);
                side(-a, b, 5);
                side(-a, -b, 7);
                side(b, -a, 1);
                side(b, a, 3);
                side(-b, a, 5);
                side(-b, -a, 7);
            }
        }
        side(0, 0, 8);
        side(1, 0, 2);
        side(-1, 0, 6);
        side(0, 1, 4);
        side(0, -1, 0);
    }

    private static void sidesOfTheGreatestWays() {
        int least = Integer.MIN_VALUE;
        int most = Integer.MAX_VALUE;
        int half = 1 << 30;
        side(least, 0, 6);
        side(most, 0, 2);
        side(0, least, 0);
        side(0, most, 4);
        side(least, least, 7);
        side(most, most, 3);
        side(least, most, 5);
        side(most, least, 1);
        // least is just twice half; most is one less than that
        side(least, half, 5);
        side(least, -half, 7);
        side(least, half - 1, 6);
        side(least, 1 - half, 6);
        side(most, half, 3);
        side(most, half - 1, 2);
        side(half, least, 1);
        side(half - 1, least, 0);
        side(half, most, 3);
        side(half - 1, most, 4);
        side(least + 1, half, 5);
        side(least + 1, half - 1, 6);
        side(least, 1, 6);
        side(1, least, 0);
    }

    /** What a NEEDLE SHOWS by one lie is the SIDE of its way, wherever it is. */
    private static void sidesOfAllPlaces() {
        SaucerFair x = Due.of("one 20 20 0;needle 0 0 60 0;says 0 0 1;");
        for (int needleX = 0; needleX <= 40; needleX++) {
            for (int needleY = 0; needleY <= 40; needleY++) {
                x.carry(0, needleX, needleY);
                DUE.is("from " + needleX + ", " + needleY, x.shows(0, 0), x.side(20 - needleX, 20 - needleY));
            }
        }
    }

    // ---- POINTS

    /** "A NEEDLE POINTS .. at who is not at its place, and to whom the way has the SIDE that it SHOWS." */
    private static void pointsAtWhoIsNotAtItsPlace() {
        SaucerFair flat = Due.of(ROUND + "says 5 2 1;");
        for (int p = 0; p < 5; p++) {
            DUE.is("a FLAT one, at " + p, flat.points(p, 5), 0);
        }
        SaucerFair spinning = Due.of(ROUND + "says 5 0 1;says 5 1 1;");
        for (int p = 0; p < 5; p++) {
            DUE.is("one that SPINS, at " + p, spinning.points(p, 5), 0);
        }
        SaucerFair silent = Due.of(ROUND);
        for (int p = 0; p < 5; p++) {
            DUE.is("one that SHOWS nothing, at " + p, silent.points(p, 5), 0);
        }
        int[] liars = {0, 1, 3, 4};
        for (int liar : liars) {
            SaucerFair x = Due.of(ROUND + "says 5 " + liar + " 1;");
            for (int p = 0; p < 5; p++) {
                DUE.is(liar + " lied: at " + p, x.points(p, 5), p == liar ? 1 : 0);
            }
        }
    }

    private static void pointsAtAllOfASide() {
        // the needle at 10, 10 is turned to 1: ways of 10, -5 and 5, -10 have that side, 11, -5 and 5, -11 none
        String text = "one 15 5 0;one 20 5 0;one 15 0 0;one 21 5 0;one 10 5 0;one 15 15 0;needle 10 10 40 0;says 3 0 1;";
        SaucerFair x = Due.of(text);
        DUE.is("at him", x.points(0, 3), 1);
        DUE.is("at twice as far", x.points(1, 3), 1);
        DUE.is("at twice as high", x.points(2, 3), 1);
        DUE.is("not at more than twice as far", x.points(3, 3), 0);
        DUE.is("not straight up", x.points(4, 3), 0);
        DUE.is("not below", x.points(5, 3), 0);
        DUE.is("not ahead of it", x.points(0, 2), 0);
    }

    // ---- ACCUSES

    /** "if that is above 0 .. else nobody." */
    private static void accusesIfAboveNothing() {
        String fair = "one 1 1 1;court ";
        DUE.is("0", Due.of(fair + "0;").accused(0), -1);
        DUE.is("1", Due.of(fair + "1;").accused(0), 0);
        DUE.is("-1", Due.of(fair + "0-1;").accused(0), -1);
        DUE.is("the least int", Due.of(fair + "2048*1024*1024;").accused(0), -1);
        DUE.is("the greatest int", Due.of(fair + "2048*1024*1024-1;").accused(0), 0);
        DUE.is("nobody there", Due.of("court 1;").accused(0), -1);
        DUE.is("by a rule without NEEDLES, in hour 99", Due.of(fair + "hour=99;").accused(99), 0);
        DUE.is("by a rule without NEEDLES, in hour 98", Due.of(fair + "hour=99;").accused(98), -1);
        SaucerFair below = Due.of("one 1 1 1;one 2 2 2;one 3 3 3;court skill-3;");
        DUE.is("-2, -1 and 0", below.accused(0), -1);
        SaucerFair above = Due.of("one 1 1 1;one 2 2 2;one 3 3 3;court skill-2;");
        DUE.is("-1, 0 and 1", above.accused(0), 2);
    }

    /** "of like ones the least". */
    private static void accusesTheLeastOfLikeOnes() {
        String people = "one 1 1 5;one 2 2 7;one 3 3 7;one 4 4 6;";
        DUE.is("of two like ones", Due.of(people + "court skill;").accused(0), 1);
        DUE.is("of all", Due.of(people + "court 1;").accused(0), 0);
        DUE.is("the last", Due.of(people + "court skill=6;").accused(0), 3);
        DUE.is("of like ones, without a rule", Due.of("one 30 10 0;one 20 10 0;needle 10 10 40 0;says 0 1 1;").accused(0), 0);
        StringBuilder ten = new StringBuilder("court skill;");
        for (int i = 0; i < 10; i++) {
            ten.append("one ").append(i).append(" 0 ").append(i).append(";");
        }
        DUE.is("the tenth", Due.of(ten.toString()).accused(0), 9);
    }

    /** "(without one, at whom most NEEDLES POINT)". */
    private static void accusesByWhatIsPointedAt() {
        // needles at 10, 10 and 10, 11 and 10, 12: a lie of DEGREE 1 is HEARD by the first, of 2 by two of them, of 3 by all
        String fair = "one 0 10 0;one 30 10 0;needle 10 10 40 0;needle 10 11 40 1;needle 10 12 40 2;";
        SaucerFair x = Due.of(fair + "says 1 0 3;says 2 1 1;says 3 1 2;says 4 1 3;");
        DUE.is("three", x.accused(1), 0);
        DUE.is("two to one", x.accused(2), 0);
        DUE.is("one to two", x.accused(3), 1);
        DUE.is("none to three", x.accused(4), 1);
        SaucerFair tie = Due.of(fair + "says 1 0 2;says 2 1 1;");
        DUE.is("one to one", tie.accused(2), 0);
        SaucerFair other = Due.of(fair + "says 1 1 2;says 2 0 1;");
        DUE.is("one to one, the other way", other.accused(2), 0);
        DUE.is("two to none", other.accused(1), 1);
        SaucerFair flat = Due.of("one 10 10 0;needle 10 10 40 0;says 1 0 1;");
        DUE.is("a FLAT one points at nobody", flat.accused(1), -1);
    }

    private static void valuesOfTheCourt() {
        String six = "needle 1 10 40 0;needle 2 10 40 0;needle 3 10 40 0;needle 4 10 40 0;needle 5 10 40 0;needle 6 10 40 0;";
        String right = "one 20 10 0;" + six + "says 1 0 1;court points=";
        DUE.is("six POINT", Due.of(right + "6;").accused(1), 0);
        DUE.is("not five", Due.of(right + "5;").accused(1), -1);
        DUE.is("none yet", Due.of(right + "0;").accused(0), 0);
        SaucerFair flat = Due.of("one 20 10 0;one 21 10 0;" + six + "says 1 0 1;court flat=6;");
        DUE.is("not FLAT", flat.accused(1), -1);
        for (int n = 0; n < 6; n++) {
            DUE.is("five or fewer FLAT", flat.accused(1), -1);
            flat.carry(n, 20, 10);
        }
        DUE.is("six lie FLAT at his place", flat.accused(1), 0);
        flat.carry(5, 21, 10);
        DUE.is("one of them points from the other one's place", flat.accused(1), -1);
        SaucerFair another = Due.of("one 20 10 0;one 21 10 0;needle 20 10 9 0;says 1 0 1;court flat;");
        DUE.is("FLAT at the first one's place, not the other's", another.accused(1), 0);
        SaucerFair else2 = Due.of("one 21 10 0;one 20 10 0;needle 20 10 9 0;says 1 1 1;court flat;");
        DUE.is("FLAT at the second one's place", else2.accused(1), 1);
    }

    /** "'said' (how many SAYINGS he has told up to that HOUR, true or not)". */
    private static void saidUpToTheHour() {
        SaucerFair x = Due.of("one 1 1 1;one 2 2 2;says 50 1 0;says 50 1 1;says 99 1 9;court said=2;");
        DUE.is("49", x.accused(49), -1);
        DUE.is("50", x.accused(50), 1);
        DUE.is("98", x.accused(98), 1);
        DUE.is("99", x.accused(99), -1);
        SaucerFair first = Due.of("one 1 1 1;says 0 0 0;court said;");
        DUE.is("hour 0", first.accused(0), 0);
        SaucerFair most = Due.of("one 1 1 1;" + "says 9 0 0;".repeat(16) + "court said=16;");
        DUE.is("sixteen", most.accused(9), 0);
        DUE.is("sixteen, an hour ahead", most.accused(8), -1);
    }

    // ---- EXPR

    private static void gives(String expr, String value) {
        DUE.is(expr + " is " + value, Due.of("one 1 1 1;court (" + expr + ")=(" + value + ");").accused(0), 0);
        DUE.is(expr + " is not " + value + "+1", Due.of("one 1 1 1;court (" + expr + ")=(" + value + ")+1;").accused(0), -1);
    }

    /** "ints that wrap". */
    private static void numbersWrap() {
        String least = "2048*1024*1024";
        gives("9999+1", "10*1000");
        gives(least + "-1+1", least);
        gives(least + "-1", "0-(" + least + "+1)");
        gives("0-" + least, least);
        gives("4096*1024*1024", "0");
        gives("4096*1024*1024+5", "5");
        gives(least + "*2", "0");
        gives(least + "*3", least);
        // 999700029999 is 233 times 2^32, less 1027349969
        gives("9999*9999*9999", "0-1027*1000*1000-349*1000-969");
    }

    /** "/ cut down to 0, by 0 gives 0". */
    private static void divisionCutsDown() {
        gives("7/2", "3");
        gives("6/2", "3");
        gives("1/2", "0");
        gives("(0-1)/2", "0");
        gives("(0-7)/2", "0-3");
        gives("7/(0-2)", "0-3");
        gives("(0-7)/(0-2)", "3");
        gives("(0-8)/2", "0-4");
        gives("7/0", "0");
        gives("0/0", "0");
        gives("(0-7)/0", "0");
        gives("7/1", "7");
        gives("7/(0-1)", "0-7");
        gives("2048*1024*1024/(0-1)", "2048*1024*1024");
        gives("(2048*1024*1024)/0", "0");
        gives("7/(3-3)+4", "4");
        gives("0/5", "0");
    }

    /** "tests, not, and, or are 1 or 0 (what isn't 0 holds)". */
    private static void testsAtTheBoundary() {
        gives("4<5", "1");
        gives("5<5", "0");
        gives("6<5", "0");
        gives("4=5", "0");
        gives("5=5", "1");
        gives("6=5", "0");
        gives("0-1<0", "1");
        gives("2048*1024*1024<0", "1");
        gives("2048*1024*1024-1<0", "0");
        gives("2048*1024*1024<2048*1024*1024-1", "1");
        gives("not 0", "1");
        gives("not 1", "0");
        gives("not 2", "0");
        gives("not (0-1)", "0");
        gives("2 and 3", "1");
        gives("0-1 and 1", "1");
        gives("0 and 1", "0");
        gives("1 and 0", "0");
        gives("0 and 0", "0");
        gives("2 or 0", "1");
        gives("0 or 2", "1");
        gives("0 or 0-1", "1");
        gives("2 or 3", "1");
        gives("0 or 0", "0");
        gives("1 or 0 and 0", "1");
        gives("(1 or 0) and 0", "0");
        gives("not 1 or 1", "1");
        gives("not 0 and 0", "0");
        gives("not 1 = 2", "1");
        gives("(not 1) = 2", "0");
        gives("1 < 1 + 1", "1");
        gives("1 + 1 = 2", "1");
        gives("10 - 3 - 2", "5");
        gives("10 - (3 - 2)", "9");
        gives("24 / 4 / 2", "3");
        gives("24 / (4 / 2)", "12");
        gives("2 + 3 * 4", "14");
        gives("2 * 3 + 4", "10");
        gives("9 - 6 / 3", "7");
        gives("7 / 2 * 2", "6");
        gives("7 * 2 / 2", "7");
    }
}
