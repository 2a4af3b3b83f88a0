/** The edges of promises 19 to 23 and 26 to 42: what is asked of none, of one, of all, at the first and the last HOUR and place. */
final class AskEdgesTest {
    private static final Due DUE = new Due("AskEdgesTest");
    /** To the left of the needle, to its right, at its place, above it, below it. */
    private static final String ROUND = "one 0 10 1;one 20 10 2;one 10 10 3;one 10 0 4;one 10 20 5;needle 10 10 40 0;";
    /** As ROUND, with a second needle; a lie of 1 is HEARD by the first alone, of 2 by the second alone, of 3 by both. */
    private static final String TWO = ROUND + "needle 10 11 39 0;turns (reach=40)*(degree=1)+(reach=39)*(degree=2)+(degree=3);";
    /** Six needles in a row, each with somebody just below it, none else within its reach. */
    private static final String SIX = "needle 0 0 1 0;needle 5 0 1 0;needle 10 0 1 0;needle 15 0 1 0;needle 20 0 1 0;needle 25 0 1 0;";
    private static final String BELOW = "one 0 1 0;one 5 1 0;one 10 1 0;one 15 1 0;one 20 1 0;one 25 1 0;";

    public static void main(String[] args) {
        quiversFromHourOne();
        clashes();
        clashAtTheFirstAndLastHour();
        worthFromAllToNone();
        worthInTheirHour();
        justAddsUpToAll();
        apartOfFewAndMany();
        alibiOfOthers();
        planOfOneToThree();
        planBesidesSayings();
        planOfManyNeedles();
        plantedBits();
        suspectsByHour();
        suspectsByDegree();
        spotsAtTheCorners();
        spotsByHour();
        saucerAtTheCorners();
        saucerNotBeyondForty();
        saucerShowsUpToTen();
        saucerOfReachAndRust();
        gamesAtTheGain();
        gamesOfTheHour();
        yearsOfHours();
        yearsBySeeds();
        shownForHowLong();
        namedUpToSixHundred();
        butForUpToSixHundred();
        rustedFromNoneToNine();
        earsOfAll();
        hideoutsAtTheCorners();
        pardonsOfNoneToAll();
        falselyUpToTheHour();
        truestOfLikeOnes();
        firstHours();
        busiestHours();
        besidesSixteenSayings();
        turnsOfALieMore();
        turnsInYears();
        courtInEachHour();
        DUE.end();
    }

    // ---- QUIVERS, CLASH, WORTH

    /** "QUIVERS of a NEEDLE: in how many HOURS (1 to 99) it SHOWS otherwise than in the one ahead". */
    private static void quiversFromHourOne() {
        DUE.is("none", Due.of(ROUND).needle(0, 5), 0);
        DUE.is("hour 0", Due.of(ROUND + "says 0 0 1;").needle(0, 5), 0);
        DUE.is("hour 1", Due.of(ROUND + "says 1 0 1;").needle(0, 5), 1);
        DUE.is("hour 99", Due.of(ROUND + "says 99 0 1;").needle(0, 5), 1);
        DUE.is("hours 0, 1, 99", Due.of(ROUND + "says 0 0 1;says 1 1 1;says 99 0 1;").needle(0, 5), 2);
        DUE.is("the same again", Due.of(ROUND + "says 5 0 1;says 6 0 1;").needle(0, 5), 1);
        DUE.is("FLAT, then SPINS", Due.of(ROUND + "says 5 2 1;says 6 0 1;says 6 1 1;").needle(0, 5), 2);
        SaucerFair x = Due.of(ROUND);
        for (int i = 0; i < 16; i++) {
            x.tell(99 - i, i % 2, 1);
        }
        DUE.is("sixteen", x.needle(0, 5), 16);
    }

    /** "two NEEDLES that each POINT at somebody POINT at nobody both". */
    private static void clashes() {
        DUE.is("left and right", Due.of(TWO + "says 5 0 1;says 5 1 2;").clash(), 5);
        DUE.is("both left", Due.of(TWO + "says 5 0 3;").clash(), -1);
        DUE.is("the second SHOWS nothing", Due.of(TWO + "says 5 0 1;").clash(), -1);
        DUE.is("the first SHOWS nothing", Due.of(TWO + "says 5 0 2;").clash(), -1);
        DUE.is("the first lies FLAT", Due.of(TWO + "says 5 2 1;says 5 0 2;").clash(), -1);
        DUE.is("the first SPINS", Due.of(TWO + "says 5 0 1;says 5 1 1;says 5 0 2;").clash(), -1);
        // up from the second are the one above and the one at the first needle's place; the first has the former alone
        DUE.is("up and up", Due.of(TWO + "says 5 3 1;says 5 2 2;").clash(), -1);
        DUE.is("up and down", Due.of(TWO + "says 5 3 1;says 5 4 2;").clash(), 5);
        // 7 from the first is nobody
        DUE.is("at nobody", Due.of(TWO + "says 5 0 1;says 5 3 1;says 5 1 2;").clash(), -1);
        DUE.is("one NEEDLE alone", Due.of(ROUND + "says 5 0 1;").clash(), -1);
        DUE.is("no NEEDLES", Due.of("one 1 1 1;says 5 0 1;").clash(), -1);
        DUE.is("nobody", Due.of("needle 1 1 1 1;needle 2 2 2 2;").clash(), -1);
        SaucerFair six = Due.of(BELOW + SIX + "says 5 0 1;says 7 5 1;says 6 4 0;");
        DUE.is("the first and the sixth", six.clash(), 7);
    }

    private static void clashAtTheFirstAndLastHour() {
        DUE.is("hour 0", Due.of(TWO + "says 0 0 1;says 0 1 2;").clash(), 0);
        DUE.is("hour 99", Due.of(TWO + "says 0 0 1;says 99 1 2;").clash(), 99);
        DUE.is("hour 98", Due.of(TWO + "says 98 0 1;says 3 1 2;").clash(), 98);
        DUE.is("the first of two", Due.of(TWO + "says 7 0 1;says 8 1 2;says 9 0 3;says 10 1 1;").clash(), 8);
    }

    /** "of how many it POINTS at who says it, or lies FLAT at his place, in their HOUR, less of how many it doesn't". */
    private static void worthFromAllToNone() {
        DUE.is("no SAYINGS", Due.of(ROUND).needle(0, 6), 0);
        DUE.is("true ones", Due.of(ROUND + "says 5 0 0;".repeat(16)).needle(0, 6), 0);
        DUE.is("sixteen rightly", Due.of(ROUND + "says 5 0 1;".repeat(16)).needle(0, 6), 16);
        DUE.is("sixteen FLAT", Due.of(ROUND + "says 5 2 1;".repeat(16)).needle(0, 6), 16);
        DUE.is("sixteen wrongly", Due.of(ROUND + "says 5 0 1;says 5 1 1;".repeat(8)).needle(0, 6), -16);
        DUE.is("eight more to the left", Due.of(ROUND + "says 5 0 1;".repeat(9) + "says 5 1 1;".repeat(7)).needle(0, 6), 2);
        DUE.is("with one at its place", Due.of(ROUND + "says 5 0 1;says 5 2 1;").needle(0, 6), 0);
        DUE.is("SPINS, one at its place", Due.of(ROUND + "says 5 0 1;says 5 1 1;says 5 2 1;").needle(0, 6), -3);
        SaucerFair rusty = Due.of(ROUND + "says 5 0 5;says 5 1 4;");
        rusty.rust(0, 4);
        DUE.is("what it doesn't HEAR counts for nothing", rusty.needle(0, 6), 1);
    }

    private static void worthInTheirHour() {
        SaucerFair x = Due.of(ROUND + "says 5 0 1;says 6 1 1;says 0 2 1;says 99 4 1;");
        DUE.is("each in its HOUR", x.needle(0, 6), 4);
        x.tell(6, 0, 1);
        DUE.is("hour 6 SPINS", x.needle(0, 6), 1);
    }

    // ---- ONE LIE

    /** JUST: "the one who lies is ACCUSED in that HOUR; another one; nobody". */
    private static void justAddsUpToAll() {
        String[] fairs = {"", "one 5 5 5;", ROUND, BELOW + SIX, ROUND + "court skill;", ROUND + "court 0;", ROUND + "court said;"};
        int[][] wants = {{0, 0, 0}, {0, 0, 1}, {4, 0, 1}, {6, 0, 0}, {1, 4, 0}, {0, 0, 5}, {5, 0, 0}};
        for (int i = 0; i < fairs.length; i++) {
            for (int what = 0; what <= 2; what++) {
                DUE.is("just of '" + fairs[i] + "', " + what, Due.of(fairs[i]).just(9, 0, what), wants[i][what]);
                DUE.is("no SAYINGS else, " + what, tellAll(fairs[i]).just(1, 99, what), wants[i][what]);
            }
        }
        SaucerFair nine = Due.of("one 5 5 5;needle 5 6 9 8;");
        DUE.is("DEGREE 9 over RUST 8", nine.just(9, 0, 0), 1);
        DUE.is("DEGREE 8 over RUST 8", nine.just(8, 0, 2), 1);
        SaucerFair one = Due.of("one 5 5 5;needle 5 6 9 0;");
        DUE.is("DEGREE 1 over RUST 0", one.just(1, 99, 0), 1);
    }

    private static SaucerFair tellAll(String text) {
        SaucerFair x = Due.of(text);
        for (int i = 0; i < 16 && x.count(0) > 0; i++) {
            x.tell(i % 2 * 99, i % x.count(0), 9);
        }
        return x;
    }

    /** "TELL APART: the fewest NEEDLES such that no two of PEOPLE .. let all of them SHOW alike". */
    private static void apartOfFewAndMany() {
        DUE.is("nobody", Due.of(SIX).apart(9, 0), 0);
        DUE.is("one", Due.of(SIX + "one 40 40 0;").apart(9, 0), 0);
        DUE.is("two, both unheard", Due.of(SIX + "one 40 40 0;one 39 39 0;").apart(9, 0), -1);
        DUE.is("two, one unheard", Due.of(SIX + "one 40 40 0;one 0 1 0;").apart(9, 0), 1);
        DUE.is("two, the other one's needle is the last", Due.of(SIX + "one 40 40 0;one 25 1 0;").apart(9, 0), 32);
        DUE.is("six: the last by what all others don't show", Due.of(SIX + BELOW).apart(9, 0), 31);
        DUE.is("seven: all six needles", Due.of(SIX + BELOW + "one 40 40 0;").apart(9, 0), 63);
        DUE.is("eight", Due.of(SIX + BELOW + "one 40 40 0;one 39 39 0;").apart(9, 0), -1);
        DUE.is("two at one needle, below it and at its place", Due.of("needle 0 0 1 0;one 0 0 0;one 0 1 0;").apart(9, 0), 1);
        DUE.is("two at one needle, both below it", Due.of("needle 0 0 3 0;one 0 2 0;one 0 1 0;").apart(9, 0), -1);
        DUE.is("no needles, one", Due.of("one 0 2 0;").apart(9, 0), 0);
        DUE.is("no needles, two", Due.of("one 0 2 0;one 0 1 0;").apart(9, 0), -1);
        DUE.is("DEGREE 1", Due.of(SIX + "one 40 40 0;one 0 1 0;").apart(1, 99), 1);
        SaucerFair rusty = Due.of("needle 0 0 9 8;one 0 1 0;one 40 40 0;");
        DUE.is("DEGREE 9 over RUST 8", rusty.apart(9, 0), 1);
        DUE.is("DEGREE 8 over RUST 8", rusty.apart(8, 0), -1);
    }

    /** "ALIBI of one: .. PEOPLE by whose ONE LIE he is, as bits (not himself)." */
    private static void alibiOfOthers() {
        StringBuilder ten = new StringBuilder();
        for (int i = 0; i < 10; i++) {
            ten.append("one ").append(i).append(" 0 ").append(i).append(";");
        }
        DUE.is("for all nine others", Due.of(ten + "court skill;").alibi(9, 9, 0), 511);
        DUE.is("for none", Due.of(ten + "court skill;").alibi(0, 9, 0), 0);
        DUE.is("for all nine others, the least", Due.of(ten + "court 1;").alibi(0, 1, 99), 1022);
        DUE.is("alone", Due.of("one 1 1 1;court 1;").alibi(0, 1, 0), 0);
        SaucerFair said = Due.of(ten + "court said;");
        for (int p = 0; p < 10; p++) {
            DUE.is("each is accused of his own", said.alibi(p, 5, 5), 0);
        }
    }

    // ---- PLANS

    /** "the fewest of PEOPLE (1 to 3) who each tell a lie of DEGREE 9 .. nobody, if they do already". */
    private static void planOfOneToThree() {
        // seven above the needle's row; the last three are 1 and 2 to its right, 3 to its left
        String up = "one 1 0 0;one 1 1 0;one 1 2 0;one 1 3 0;one 1 4 0;one 1 5 0;one 1 6 0;";
        SaucerFair three = Due.of(up + "one 21 20 0;one 22 20 0;one 17 20 0;needle 20 20 40 8;");
        DUE.is("just three", three.plan(1, 0, 9), 896);
        DUE.is("in hour 99", three.plan(1, 99, 9), 896);
        DUE.is("one: right", three.plan(1, 0, 2), 128);
        DUE.is("one: left", three.plan(1, 0, 6), 512);
        DUE.is("one: up left, the least", three.plan(1, 0, 7), 1);
        DUE.is("none: down", three.plan(1, 0, 4), -1);
        DUE.is("none: FLAT", three.plan(1, 0, 8), -1);
        three.rust(0, 9);
        DUE.is("lies of 9 are not HEARD over RUST 9", three.plan(1, 0, 2), -1);
        SaucerFair four = Due.of("one 21 20 0;one 22 20 0;one 23 20 0;one 14 20 0;needle 20 20 40 0;");
        DUE.is("four are too many", four.plan(1, 0, 9), -1);
        SaucerFair two = Due.of("one 21 20 0;one 22 20 0;one 19 20 0;one 18 20 0;needle 20 20 40 0;");
        // 1 and -1 are 5 as bits, 2 and -2 are 10
        DUE.is("two, the least as bits", two.plan(1, 0, 9), 5);
        DUE.is("two of one place are no two", Due.of("one 21 20 0;one 22 20 0;needle 20 20 40 0;").plan(1, 0, 9), -1);
        DUE.is("nobody there", Due.of("needle 20 20 40 0;").plan(1, 0, 9), -1);
        DUE.is("no NEEDLES told", Due.of(ROUND).plan(0, 0, 9), 0);
    }

    private static void planBesidesSayings() {
        SaucerFair x = Due.of(ROUND + "says 50 0 9;");
        DUE.is("already", x.plan(1, 50, 6), 0);
        DUE.is("already, later", x.plan(1, 99, 6), 0);
        DUE.is("not yet", x.plan(1, 49, 6), 1);
        DUE.is("right, an hour ahead", x.plan(1, 49, 2), 2);
        DUE.is("right, in that hour", x.plan(1, 50, 2), -1);
        DUE.is("right, an hour later", x.plan(1, 51, 2), 2);
        DUE.is("SPINS already by one more", x.plan(1, 50, 9), 2);
        x.tell(50, 1, 9);
        DUE.is("SPINS already", x.plan(1, 50, 9), 0);
        DUE.is("SPINS still", x.plan(1, 99, 9), 0);
        DUE.is("right, by one more", x.plan(1, 50, 2), 2);
        x.tell(0, 2, 9);
        DUE.is("FLAT already", x.plan(1, 0, 8), 0);
        DUE.is("FLAT until then", x.plan(1, 49, 8), 0);
        DUE.is("FLAT: not then", x.plan(1, 50, 8), -1);
    }

    private static void planOfManyNeedles() {
        SaucerFair six = Due.of(SIX + BELOW);
        DUE.is("one needle", six.plan(1, 0, 4), 1);
        DUE.is("the sixth", six.plan(32, 0, 4), 32);
        DUE.is("two", six.plan(33, 0, 4), 33);
        DUE.is("three", six.plan(7, 0, 4), 7);
        DUE.is("the last three", six.plan(56, 0, 4), 56);
        DUE.is("four would need four", six.plan(15, 0, 4), -1);
        six.tell(0, 3, 9);
        DUE.is("three of four, one does already", six.plan(15, 0, 4), 7);
        DUE.is("all six", six.plan(63, 0, 4), -1);
        six.tell(0, 4, 9);
        six.tell(0, 5, 9);
        DUE.is("three of all six", six.plan(63, 0, 4), 7);
        DUE.illegal("a seventh", () -> six.plan(64, 0, 4));
        DUE.illegal("a seventh, too", () -> six.plan(127, 0, 4));
    }

    // ---- SEEN

    private static void plantedBits() {
        SaucerFair x = Due.of(SIX + BELOW + "says 50 0 1;says 50 5 1;");
        for (int n = 0; n < 6; n++) {
            x.see(n, 50, 4);
        }
        DUE.is("the first and the last SHOW so", x.planted(), 30);
        x.see(0, 49, -1);
        DUE.is("nothing ahead of it", x.planted(), 30);
        x.see(5, 49, 4);
        DUE.is("the last one not ahead of it", x.planted(), 62);
        x.forget();
        DUE.is("forgotten", x.planted(), 0);
        x.see(0, 99, 4);
        x.see(0, 0, -1);
        DUE.is("hours 0 and 99", x.planted(), 0);
        x.see(0, 99, -1);
        DUE.is("one of three is not so", x.planted(), 1);
    }

    /** "by whose one lie more .. in it all that is SEEN would be so". */
    private static void suspectsByHour() {
        int[] seenIn = {0, 40, 49, 50, 99};
        for (int seen : seenIn) {
            SaucerFair x = Due.of(ROUND);
            x.see(0, seen, 2);
            for (int hour = 0; hour <= 99; hour++) {
                DUE.is("seen in " + seen + ", a lie in " + hour, x.suspects(hour), hour <= seen ? 2 : 0);
            }
        }
        SaucerFair x = Due.of(ROUND + "says 50 0 9;");
        x.see(0, 60, 2);
        DUE.is("ahead of what is HEARD then", x.suspects(49), 0);
        DUE.is("with it", x.suspects(50), 0);
        DUE.is("behind it", x.suspects(51), 2);
        DUE.is("in that hour", x.suspects(60), 2);
        DUE.is("behind that hour", x.suspects(61), 0);
        x.see(0, 55, 6);
        DUE.is("left in hour 55: not ahead of it", x.suspects(55), 0);
        DUE.is("left in hour 55: behind it", x.suspects(56), 2);
        x.see(0, 50, 6);
        x.see(0, 49, -1);
        DUE.is("nothing in hour 49", x.suspects(60), 2);
        x.see(0, 99, 4);
        DUE.is("another one", x.suspects(60), 0);
        x.forget();
        DUE.is("nothing is SEEN: all", x.suspects(0), 31);
    }

    /** "of some DEGREE (1 to 9)". */
    private static void suspectsByDegree() {
        for (int degree = 0; degree <= 10; degree++) {
            SaucerFair x = Due.of(ROUND + "turns degree=" + degree + ";");
            x.see(0, 5, 2);
            DUE.is("DEGREE " + degree, x.suspects(5), degree >= 1 && degree <= 9 ? 2 : 0);
        }
        for (int rust = 0; rust <= 9; rust++) {
            SaucerFair x = Due.of(ROUND);
            x.rust(0, rust);
            x.see(0, 5, 2);
            DUE.is("RUST " + rust, x.suspects(5), rust < 9 ? 2 : 0);
        }
        // what is SEEN is so already, but by no lie that is HEARD: a true word more is no lie
        SaucerFair silent = Due.of(ROUND);
        silent.see(0, 5, -1);
        DUE.is("any lie would be HEARD", silent.suspects(5), 0);
        DUE.is("any lie behind it", silent.suspects(6), 31);
        silent.rust(0, 1);
        DUE.is("but a lie of 1", silent.suspects(5), 31);
        StringBuilder ten = new StringBuilder("needle 20 20 40 0;");
        for (int i = 0; i < 10; i++) {
            ten.append("one ").append(i).append(" 20 0;");
        }
        SaucerFair x = Due.of(ten.toString());
        x.see(0, 5, 6);
        DUE.is("all ten", x.suspects(5), 1023);
    }

    /** "places (X, Y 0 to 40) .. how many; the first (by Y, then X: 100 by Y and X); none". */
    private static void spotsAtTheCorners() {
        int[][] corners = {{0, 0}, {40, 0}, {0, 40}, {40, 40}, {17, 23}};
        for (int[] corner : corners) {
            SaucerFair x = Due.of("needle " + corner[0] + " " + corner[1] + " 1 0;");
            DUE.is("nothing is SEEN", x.spots(0, 0), 1681);
            DUE.is("the first", x.spots(0, 1), 0);
            x.see(0, 50, 8);
            DUE.is("FLAT: just there", x.spots(50, 0), 1);
            DUE.is("where", x.spots(50, 1), 100 * corner[1] + corner[0]);
            x.see(0, 50, 9);
            DUE.is("not both", x.spots(50, 0), 0);
            DUE.is("nowhere", x.spots(50, 1), -1);
        }
        SaucerFair right = Due.of("needle 38 3 60 0;");
        right.see(0, 5, 2);
        // one right of it, two right of it: none is more than twice as high
        DUE.is("two to the right", right.spots(5, 0), 2);
        DUE.is("the first of them", right.spots(5, 1), 339);
        SaucerFair left = Due.of("needle 3 3 60 0;");
        left.see(0, 5, 6);
        DUE.is("1, 2 and 3 to the left: 1, 1 and 3", left.spots(5, 0), 5);
        DUE.is("the first is one up", left.spots(5, 1), 200);
        SaucerFair people = Due.of(ROUND);
        DUE.is("at people's places, too", people.spots(5, 0), 1681);
    }

    private static void spotsByHour() {
        SaucerFair x = Due.of(ROUND + "says 50 0 9;");
        x.see(0, 60, 8);
        DUE.is("ahead of what is HEARD then", x.spots(49, 0), 0);
        DUE.is("with it", x.spots(50, 0), 0);
        DUE.is("behind it", x.spots(51, 0), 1);
        DUE.is("in that hour", x.spots(60, 0), 1);
        DUE.is("behind that hour", x.spots(61, 0), 0);
        x.forget();
        x.see(0, 50, 9);
        DUE.is("SPINS: with it", x.spots(50, 0), 1);
        DUE.is("opposite", x.spots(50, 1), 1020);
        SaucerFair skill = Due.of("needle 20 20 60 0;turns skill=0;");
        skill.see(0, 99, 8);
        DUE.is("SKILL 0", skill.spots(99, 0), 1);
        SaucerFair one = Due.of("needle 20 20 60 0;turns skill=1;");
        one.see(0, 99, 8);
        DUE.is("not SKILL 1", one.spots(99, 0), 0);
        SaucerFair nine = Due.of("needle 20 20 60 8;");
        nine.see(0, 99, 8);
        DUE.is("DEGREE 9 over RUST 8", nine.spots(99, 0), 1);
        nine.rust(0, 9);
        DUE.is("not over RUST 9", nine.spots(99, 0), 0);
    }

    // ---- ANOTHER SAUCER

    /** "of all places .. of like ones the first by Y, then X: 100 by Y and X". */
    private static void saucerAtTheCorners() {
        // the second is HEARD within 1 of his place, the first at his own alone, the third never
        int[][] corners = {{0, 0, 1, 1}, {40, 0, 39, 1}, {0, 40, 1, 39}, {40, 40, 39, 39}};
        for (int[] at : corners) {
            SaucerFair x = Due.of("one " + at[0] + " " + at[1] + " 1;one " + at[2] + " " + at[3] + " 2;one 20 20 3;"
                + "turns (skill=1)*(far=0)+(skill=2)*(far=1);");
            DUE.is("FLAT, a side, nothing", x.saucer(7, 0, 0), 3);
            DUE.is("where", x.saucer(7, 0, 1), 100 * at[1] + at[0]);
            DUE.is("the third alone: nothing", x.saucer(4, 0, 0), 1);
            DUE.is("the third alone: the first place", x.saucer(4, 0, 1), 0);
            DUE.is("none", x.saucer(0, 0, 0), 0);
            DUE.is("none: the first place", x.saucer(0, 99, 1), 0);
        }
        SaucerFair pair = Due.of("one 40 40 0;one 40 39 0;");
        DUE.is("two", pair.saucer(3, 0, 0), 2);
        DUE.is("one of them", pair.saucer(1, 0, 0), 1);
        DUE.is("the other one", pair.saucer(2, 0, 0), 1);
        DUE.illegal("a third", () -> pair.saucer(4, 0, 0));
        DUE.illegal("with a third", () -> pair.saucer(7, 0, 0));
    }

    /** He is 40 far from places of X 41, Y 41, X -1 or Y -1 alone, where there is none: nothing is ever HEARD. */
    private static void saucerNotBeyondForty() {
        for (String place : new String[] {"1 39", "39 1", "39 39", "1 1"}) {
            SaucerFair x = Due.of("one " + place + " 1;one 5 5 2;turns skill=1 and far=40;");
            DUE.is("nothing, by " + place, x.saucer(3, 0, 0), 1);
            DUE.is("the first place, by " + place, x.saucer(3, 0, 1), 0);
        }
        for (String place : new String[] {"0 39", "39 0", "40 39", "39 40", "0 0", "40 40"}) {
            SaucerFair x = Due.of("one " + place + " 1;one 5 5 2;turns skill=1 and far=40;");
            DUE.is("a side and nothing, by " + place, x.saucer(3, 0, 0), 2);
        }
    }

    /** "how many (nothing counts as one)": from eight sides, FLAT and nothing. */
    private static void saucerShowsUpToTen() {
        String ring = "one 20 10 0;one 30 10 0;one 30 20 0;one 30 30 0;one 20 30 0;one 10 30 0;one 10 20 0;one 10 10 0;one 20 20 0;";
        SaucerFair x = Due.of(ring + "one 0 0 0;turns far<11;");
        DUE.is("ten", x.saucer(1023, 0, 0), 10);
        DUE.is("where", x.saucer(1023, 0, 1), 2020);
        DUE.is("nine without who is not HEARD", x.saucer(511, 0, 0), 9);
        DUE.is("nine without who is there", x.saucer(1023 - 256, 0, 0), 9);
        DUE.illegal("an eleventh", () -> x.saucer(1024, 0, 0));
        SaucerFair hearing = Due.of(ring + "one 0 0 0;");
        DUE.is("all are HEARD: nine, for 0, 0 is as 10, 10", hearing.saucer(1023, 0, 0), 9);
    }

    /** "(REACH 60, RUST 0)", "of DEGREE 9 in an HOUR", "no SAYINGS else". */
    private static void saucerOfReachAndRust() {
        String pair = "one 5 5 3;one 9 5 4;needle 1 1 2 3;says 7 0 9;turns ";
        String[] so = {"reach=60", "rust=0", "degree=9", "hour=7", "skill=3 or skill=4"};
        String[] not = {"reach=59 or reach=61 or reach=2", "rust=1 or rust=3", "degree=8 or degree=10 or degree=1", "hour=6 or hour=8", "skill=0"};
        for (int i = 0; i < so.length; i++) {
            DUE.is(so[i], Due.of(pair + so[i] + ";").saucer(3, 7, 0), 2);
            DUE.is(not[i], Due.of(pair + not[i] + ";").saucer(3, 7, 0), 1);
        }
        SaucerFair far = Due.of("one 40 40 0;one 40 0 0;");
        DUE.is("from the other corner", far.saucer(3, 0, 0), 2);
        DUE.is("it is HEARD there", far.saucer(3, 0, 1), 0);
    }

    // ---- GAMES, YEARS

    /** "who lies gains 5, who is ACCUSED in it loses so much (0 to 99) .. if neither gains more by the other choice". */
    private static void gamesAtTheGain() {
        // left and right: who lies alone is accused; both together let it spin
        SaucerFair x = Due.of(ROUND);
        int[] much = {0, 4, 5, 6, 99};
        int[] many = {1, 1, 2, 2, 2};
        int[] first = {11, 11, 0, 0, 0};
        for (int i = 0; i < much.length; i++) {
            DUE.is("so much as " + much[i], x.game(0, 1, 0, much[i], 0), many[i]);
            DUE.is("the first by " + much[i], x.game(0, 1, 99, much[i], 1), first[i]);
        }
        DUE.illegal("-1", () -> x.game(0, 1, 0, -1, 0));
        DUE.illegal("100", () -> x.game(0, 1, 0, 100, 0));
        // he alone is accused, if he lies
        SaucerFair one = Due.of("one 1 1 1;one 2 2 2;court said*(skill=1);");
        int[] ones = {11, 11, 1, 1, 1};
        int[] others = {11, 11, 10, 10, 10};
        int[] resting = {1, 1, 2, 1, 1};
        for (int i = 0; i < much.length; i++) {
            DUE.is("his lie by " + much[i], one.game(0, 1, 0, much[i], 1), ones[i]);
            DUE.is("his lie, he being the other one, by " + much[i], one.game(1, 0, 0, much[i], 1), others[i]);
            DUE.is("how many by " + much[i], one.game(0, 1, 0, much[i], 0), resting[i]);
        }
        // accused whatever they do: both lie
        SaucerFair ever = Due.of("one 1 1 1;one 2 2 2;court skill;");
        DUE.is("whatever they do", ever.game(0, 1, 0, 99, 0), 1);
        DUE.is("both lie", ever.game(0, 1, 0, 99, 1), 11);
        DUE.illegal("both are one", () -> ever.game(0, 0, 0, 0, 0));
        DUE.illegal("both are the other one", () -> ever.game(1, 1, 0, 0, 0));
    }

    private static void gamesOfTheHour() {
        SaucerFair x = Due.of(ROUND + "says 50 0 9;");
        // left is accused from hour 50 on, unless it spins or is turned
        DUE.is("hour 49: as without", x.game(0, 1, 49, 9, 0), 2);
        // in hour 50: 0 0 left, 1 0 left, 0 1 spins, 1 1 left (two to one): he would be silent, the other one lies
        DUE.is("hour 50", x.game(0, 1, 50, 9, 0), 1);
        DUE.is("hour 50: the other one lies", x.game(0, 1, 50, 9, 1), 1);
        // in hour 51: 0 0 left, 1 0 left, 0 1 right, 1 1 spins
        DUE.is("hour 51", x.game(0, 1, 51, 9, 0), 1);
        DUE.is("hour 51: both lie", x.game(0, 1, 51, 9, 1), 11);
        StringBuilder ten = new StringBuilder("court said*skill;");
        for (int i = 0; i < 10; i++) {
            ten.append("one ").append(i).append(" 0 ").append(i / 9).append(";");
        }
        SaucerFair tenth = Due.of(ten.toString());
        DUE.is("the tenth would be accused", tenth.game(8, 9, 0, 99, 1), 10);
        DUE.is("the tenth, first", tenth.game(9, 8, 0, 99, 1), 1);
    }

    /** "n HOURS (0 to 99; 0 to one less than n)". */
    private static void yearsOfHours() {
        for (int n : new int[] {0, 1, 2, 98, 99}) {
            SaucerFair all = Due.of("one 1 1 1;court 1;");
            DUE.is("all " + n + " hours", all.years(3, n, 0) + all.years(3, n, 2), n);
            DUE.is("lies are accused", all.years(3, n, 0), all.years(3, n, 1));
            for (int hour : new int[] {0, 1, 97, 98, 99}) {
                SaucerFair x = Due.of("one 1 1 1;court hour=" + hour + ";");
                DUE.is("hour " + hour + " of " + n, x.years(3, n, 0) + x.years(3, n, 2), hour < n ? 1 : 0);
                SaucerFair said = Due.of("one 1 1 1;court said=" + (hour + 1) + ";");
                DUE.is("SAYING " + hour + " of " + n, said.years(3, n, 0) + said.years(3, n, 2), hour < n ? 1 : 0);
            }
        }
        SaucerFair x = Due.of("one 1 1 1;");
        DUE.illegal("-1", () -> x.years(0, -1, 0));
        DUE.illegal("100", () -> x.years(0, 100, 0));
        DUE.illegal("nobody: -1", () -> new SaucerFair().years(0, -1, 0));
        DUE.illegal("nobody: 100", () -> new SaucerFair().years(0, 100, 0));
        DUE.noSuch("nobody: what 3", () -> new SaucerFair().years(0, 0, 3));
        for (int what = 0; what <= 2; what++) {
            DUE.is("nobody", new SaucerFair().years(7, 99, what), 0);
            DUE.is("nobody, by a rule", Due.of("court 1;needle 1 1 1 1;").years(7, 99, what), 0);
        }
    }

    /** "A seed becomes itself times 1103515245 and 12345 (an int that wraps); a DRAW of n is its bits 16 to 30 MOD n then." */
    private static void yearsBySeeds() {
        for (int people = 1; people <= 10; people++) {
            StringBuilder text = new StringBuilder();
            for (int i = 0; i < people; i++) {
                text.append("one ").append(i).append(" 0 ").append(i).append(";");
            }
            for (int seed : new int[] {0, 1, -1, 65535, 65536, Integer.MIN_VALUE, Integer.MAX_VALUE, 123456789}) {
                // the one of SKILL 0 is accused for ever: so he is when he draws, lying or not
                SaucerFair x = Due.of(text + "court skill=0;");
                int[] want = drawn(seed, 99, people);
                for (int what = 0; what <= 2; what++) {
                    DUE.is("seed " + seed + " of " + people + ", " + what, x.years(seed, 99, what), want[what]);
                }
            }
        }
    }

    private static int[] drawn(int seed, int n, int people) {
        int[] found = new int[3];
        long state = seed & 0xffffffffL;
        for (int hour = 0; hour < n; hour++) {
            state = (state * 1103515245L + 12345L) & 0xffffffffL;
            long who = state / 65536 % 32768 % people;
            state = (state * 1103515245L + 12345L) & 0xffffffffL;
            long degree = state / 65536 % 32768 % 10;
            found[0] += degree > 0 && who == 0 ? 1 : 0;
            found[1] += degree > 0 ? 1 : 0;
            found[2] += degree == 0 && who == 0 ? 1 : 0;
        }
        return found;
    }

    // ---- all HOURS

    /** "FOR HOW LONG: in how many HOURS (0 to 99) a NEEDLE SHOWS a told SIDE (NONE: nothing)." */
    private static void shownForHowLong() {
        for (int told : new int[] {0, 1, 50, 98, 99}) {
            SaucerFair x = Due.of(ROUND + "says " + told + " 0 1;");
            DUE.is("nothing until " + told, x.shown(0, -1), told);
            DUE.is("left from " + told, x.shown(0, 6), 100 - told);
            DUE.is("right from " + told, x.shown(0, 2), 0);
        }
        SaucerFair silent = Due.of(ROUND);
        for (int side = -1; side <= 9; side++) {
            DUE.is("never, " + side, silent.shown(0, side), side == -1 ? 100 : 0);
        }
        SaucerFair all = Due.of(ROUND + "one 20 0 0;one 20 20 0;one 0 20 0;one 0 0 0;says 10 3 1;says 20 5 1;says 30 1 1;says 40 6 1;"
            + "says 50 4 1;says 60 7 1;says 70 0 1;says 80 8 1;says 90 2 1;says 99 0 1;says 99 1 1;");
        int[] want = {10, 10, 10, 10, 10, 10, 10, 10, 10, 9, 1};
        for (int side = -1; side <= 9; side++) {
            DUE.is("each, " + side, all.shown(0, side), want[side + 1]);
        }
    }

    /** "NAMED is one as often as a NEEDLE POINTS at him in an HOUR, all HOURS together; VERDICTS". */
    private static void namedUpToSixHundred() {
        String row = "one 20 0 0;one 20 1 0;needle 0 0 40 0;needle 1 0 40 0;needle 2 0 40 0;needle 3 0 40 0;needle 4 0 40 0;needle 5 0 40 0;";
        SaucerFair x = Due.of(row + "says 0 0 1;");
        DUE.is("six in a hundred HOURS", x.named(0, 0), 600);
        DUE.is("so is who is on that side, too", x.named(1, 0), 600);
        DUE.is("accused in all HOURS", x.named(0, 1), 100);
        DUE.is("of like ones the least", x.named(1, 1), 0);
        SaucerFair late = Due.of(row + "says 99 1 1;");
        DUE.is("six in the last HOUR", late.named(1, 0), 6);
        DUE.is("accused in the last HOUR", late.named(0, 1), 1);
        SaucerFair never = Due.of(row);
        DUE.is("never", never.named(0, 0) + never.named(0, 1), 0);
        DUE.is("by a rule, without NEEDLES", Due.of("one 1 1 1;court 1;").named(0, 1), 100);
        DUE.is("by a rule, the last HOUR alone", Due.of("one 1 1 1;court hour=99;").named(0, 1), 1);
        DUE.is("by a rule, the first HOUR alone", Due.of("one 1 1 1;court hour=0;").named(0, 1), 1);
    }

    /** "BUT FOR a SAYING, were it not: in how many HOURS, all NEEDLES together, they would SHOW otherwise." */
    private static void butForUpToSixHundred() {
        String row = "one 20 0 0;one 20 1 0;needle 0 0 40 0;needle 1 0 40 0;needle 2 0 40 0;needle 3 0 40 0;needle 4 0 40 0;needle 5 0 40 0;";
        DUE.is("six in a hundred HOURS", Due.of(row + "says 0 0 1;").butFor(0), 600);
        DUE.is("six in the last HOUR", Due.of(row + "says 99 0 1;").butFor(0), 6);
        DUE.is("what is true", Due.of(row + "says 0 0 0;").butFor(0), 0);
        DUE.is("a like one", Due.of(row + "says 0 0 1;says 0 0 1;").butFor(0), 0);
        DUE.is("until another one", Due.of(row + "says 0 0 1;says 1 1 1;").butFor(0), 6);
        DUE.is("the other one, which shows the same", Due.of(row + "says 0 0 1;says 1 1 1;").butFor(1), 0);
        SaucerFair full = Due.of(row + "says 5 0 0;".repeat(15) + "says 50 0 1;");
        DUE.is("the sixteenth", full.butFor(15), 300);
        DUE.is("SPINS otherwise", Due.of(ROUND + "says 40 0 1;says 40 1 1;").butFor(0), 60);
        DUE.is("FLAT or not", Due.of(ROUND + "says 40 2 1;says 40 1 1;").butFor(1), 60);
        DUE.is("FLAT beside another one", Due.of(ROUND + "says 40 2 1;says 40 1 1;").butFor(0), 0);
        DUE.is("no NEEDLES", Due.of("one 1 1 1;says 0 0 1;").butFor(0), 0);
    }

    /** "RUSTED: the least RUST (0 to 9) by which a NEEDLE HEARS none; none." */
    private static void rustedFromNoneToNine() {
        DUE.is("no SAYINGS", Due.of(ROUND).rusted(0), 0);
        for (int degree = 0; degree <= 9; degree++) {
            DUE.is("DEGREE " + degree, Due.of(ROUND + "says 5 0 " + degree + ";").rusted(0), degree);
            for (int rust = 0; rust <= 10; rust++) {
                SaucerFair x = Due.of(ROUND + "says 5 0 1;turns rust<" + rust + ";");
                if (degree < 9) {
                    x.rust(0, degree);
                }
                DUE.is("HEARD below " + rust, x.rusted(0), rust == 10 ? -1 : rust);
            }
        }
        DUE.is("out of REACH", Due.of("one 0 0 0;needle 5 5 4 0;says 5 0 9;").rusted(0), 0);
        DUE.is("within REACH", Due.of("one 0 0 0;needle 5 5 5 0;says 5 0 9;").rusted(0), 9);
        DUE.is("none", Due.of(ROUND + "says 5 0 1;turns 1;").rusted(0), -1);
        DUE.is("the highest of two", Due.of(ROUND + "says 5 0 3;says 99 1 4;").rusted(0), 4);
    }

    /** "EARS: the fewest NEEDLES such that ONE LIE of each of PEOPLE .. is HEARD by one of them". */
    private static void earsOfAll() {
        DUE.is("nobody", Due.of(SIX).ears(9, 0), 0);
        DUE.is("nobody and nothing", new SaucerFair().ears(9, 99), 0);
        DUE.is("one, no NEEDLES", Due.of("one 1 1 1;").ears(9, 0), -1);
        DUE.is("the first", Due.of(SIX + "one 0 1 0;").ears(9, 0), 1);
        DUE.is("the sixth", Due.of(SIX + "one 25 1 0;").ears(9, 0), 32);
        DUE.is("all six", Due.of(SIX + BELOW).ears(9, 0), 63);
        DUE.is("all six, DEGREE 1", Due.of(SIX + BELOW).ears(1, 99), 63);
        DUE.is("one of them is not HEARD", Due.of(SIX + BELOW + "one 40 40 0;").ears(9, 0), -1);
        SaucerFair like = Due.of("one 5 5 0;needle 6 6 9 0;needle 4 4 9 0;needle 5 5 9 0;");
        DUE.is("of as few the least", like.ears(9, 0), 1);
        like.rust(0, 9);
        DUE.is("the next", like.ears(9, 0), 2);
        SaucerFair wide = Due.of("one 0 0 0;one 40 0 0;needle 0 1 5 0;needle 40 1 5 0;needle 20 20 20 0;");
        DUE.is("one that HEARS both", wide.ears(9, 0), 4);
        wide.carry(2, 19, 20);
        DUE.is("one that HEARS but one", wide.ears(9, 0), 3);
        SaucerFair rusty = Due.of("one 0 0 0;needle 0 1 5 8;");
        DUE.is("DEGREE 9 over RUST 8", rusty.ears(9, 0), 1);
        DUE.is("DEGREE 8 over RUST 8", rusty.ears(8, 0), -1);
    }

    /** "HIDEOUTS of one: places (X, Y 0 to 40) at which .. no NEEDLE would HEAR his lie". */
    private static void hideoutsAtTheCorners() {
        DUE.is("no NEEDLES", Due.of("one 1 1 1;").hideouts(0, 9, 0, 0), 1681);
        DUE.is("no NEEDLES: the first", Due.of("one 1 1 1;").hideouts(0, 9, 0, 1), 0);
        int[][] corners = {{0, 0}, {40, 0}, {0, 40}, {40, 40}, {17, 23}};
        for (int[] at : corners) {
            SaucerFair x = Due.of("one 1 1 1;needle " + at[0] + " " + at[1] + " 9 0;turns 0<far;");
            DUE.is("just there", x.hideouts(0, 1, 0, 0), 1);
            DUE.is("where", x.hideouts(0, 9, 99, 1), 100 * at[1] + at[0]);
        }
        SaucerFair all = Due.of("one 1 1 1;needle 0 0 40 0;");
        DUE.is("all is within REACH", all.hideouts(0, 1, 0, 0), 0);
        DUE.is("nowhere", all.hideouts(0, 1, 0, 1), -1);
        SaucerFair rim = Due.of("one 1 1 1;needle 0 0 39 0;");
        DUE.is("but for two sides", rim.hideouts(0, 1, 0, 0), 81);
        DUE.is("the first of them", rim.hideouts(0, 1, 0, 1), 40);
        rim.rust(0, 8);
        DUE.is("DEGREE 9 over RUST 8", rim.hideouts(0, 9, 0, 0), 81);
        DUE.is("DEGREE 8 over RUST 8", rim.hideouts(0, 8, 0, 0), 1681);
        // together they reach over all X, but not to the first and the last row
        SaucerFair two = Due.of("one 1 1 1;needle 19 20 19 0;needle 21 20 19 0;");
        DUE.is("above and below", two.hideouts(0, 9, 0, 0), 82);
        DUE.is("the first above", two.hideouts(0, 9, 0, 1), 0);
    }

    /** "A PARDON: the fewest NEEDLES to be taken away so that one is not ACCUSED in an HOUR". */
    private static void pardonsOfNoneToAll() {
        String row = "needle 0 0 40 0;needle 1 0 40 0;needle 2 0 40 0;needle 3 0 40 0;needle 4 0 40 0;needle 5 0 40 0;";
        SaucerFair x = Due.of("one 20 0 0;one 20 9 0;" + row + "says 50 0 1;");
        DUE.is("he isn't ACCUSED yet", x.pardon(0, 49), 0);
        DUE.is("all six", x.pardon(0, 50), 63);
        DUE.is("all six in the last HOUR", x.pardon(0, 99), 63);
        DUE.is("the other one isn't ACCUSED", x.pardon(1, 50), 0);
        SaucerFair most = Due.of("one 20 0 0;" + row + "says 0 0 1;court points-5;");
        DUE.is("one of six", most.pardon(0, 0), 1);
        SaucerFair three = Due.of("one 20 0 0;" + row + "says 0 0 1;court points-3;");
        DUE.is("three of six", three.pardon(0, 0), 7);
        SaucerFair none = Due.of("one 20 0 0;" + row + "says 0 0 1;court 7-points;");
        DUE.is("none: the fewer, the worse", none.pardon(0, 0), -1);
        SaucerFair odd = Due.of("one 20 0 0;" + row + "says 0 0 1;court points=6 or points=0 or points=5;");
        DUE.is("two of six", odd.pardon(0, 0), 3);
        SaucerFair last = Due.of("one 20 0 0;" + row + "says 0 0 1;court points;turns reach=9;");
        DUE.is("nobody is ACCUSED", last.pardon(0, 0), 0);
        SaucerFair sixth = Due.of("one 30 9 0;" + row + "says 0 0 1;court points;");
        for (int n = 0; n < 5; n++) {
            sixth.rust(n, 9);
        }
        DUE.is("the sixth", sixth.pardon(0, 0), 32);
        SaucerFair tie = Due.of("one 40 0 0;one 40 40 0;needle 0 0 40 0;needle 0 40 40 0;needle 0 1 40 0;turns (skill=0)*(degree=9);says 0 0 1;");
        DUE.is("no lie is HEARD", tie.pardon(0, 0), 0);
        SaucerFair second = Due.of("one 0 0 1;one 9 9 2;court skill;");
        DUE.is("by SKILL, without NEEDLES", second.pardon(1, 0), -1);
        DUE.is("by SKILL, the other one", second.pardon(0, 0), 0);
        SaucerFair flat = Due.of("one 5 5 0;needle 5 5 1 0;needle 5 6 1 0;says 0 0 1;court flat;");
        DUE.is("the FLAT one", flat.pardon(0, 0), 1);
    }

    /** "FALSELY: .. a NEEDLE POINTS at somebody, of whom nobody has told a lie up to that HOUR." */
    private static void falselyUpToTheHour() {
        // the first two together turn it up, to the third
        String fair = "one 0 0 0;one 20 0 0;one 10 0 0;one 10 5 0;needle 10 10 40 0;says 0 0 2;says 0 1 2;";
        DUE.is("all HOURS", Due.of(fair).falsely(0), 100);
        DUE.is("true ones are no lies", Due.of(fair + "says 0 2 0;says 0 3 0;").falsely(0), 100);
        for (int told : new int[] {0, 1, 50, 98, 99}) {
            SaucerFair unheard = Due.of(fair + "says " + told + " 2 1;");
            unheard.rust(0, 1);
            DUE.is("a lie in " + told + " that it doesn't HEAR", unheard.falsely(0), told);
            SaucerFair other = Due.of(fair + "says " + told + " 3 1;");
            other.rust(0, 1);
            DUE.is("of the other one in " + told, other.falsely(0), told);
        }
        // the same with the one above being the first of PEOPLE
        String least = "one 10 0 0;one 0 0 0;one 20 0 0;needle 10 10 40 1;says 0 1 2;says 0 2 2;";
        DUE.is("at the first of PEOPLE", Due.of(least).falsely(0), 100);
        DUE.is("at the first of PEOPLE, until he lies", Due.of(least + "says 50 0 1;").falsely(0), 50);
        DUE.is("at nobody", Due.of("one 0 0 0;one 20 0 0;needle 10 10 40 0;says 0 0 2;says 0 1 2;").falsely(0), 0);
        DUE.is("nothing", Due.of(ROUND).falsely(0), 0);
        DUE.is("FLAT", Due.of(ROUND + "says 0 2 1;").falsely(0), 0);
        DUE.is("rightly", Due.of(ROUND + "says 0 0 1;").falsely(0), 0);
        DUE.is("from the last HOUR on", Due.of("one 0 0 0;one 20 0 0;one 10 0 0;needle 10 10 40 0;says 99 0 2;says 99 1 2;").falsely(0), 1);
    }

    /** "THE TRUEST: the NEEDLE of most WORTH (of like ones the least); none." */
    private static void truestOfLikeOnes() {
        DUE.is("none", Due.of("one 1 1 1;says 0 0 1;").truest(), -1);
        DUE.is("one", Due.of("needle 1 1 1 1;").truest(), 0);
        DUE.is("six like ones", Due.of(SIX).truest(), 0);
        for (int n = 0; n < 6; n++) {
            DUE.is("needle " + n, Due.of(SIX + BELOW + "says 5 " + n + " 1;").truest(), n);
        }
        DUE.is("of two like ones", Due.of(SIX + BELOW + "says 5 4 1;says 6 2 1;").truest(), 2);
        DUE.is("two rather than one", Due.of(SIX + BELOW + "says 5 4 1;says 6 2 1;says 7 4 1;").truest(), 4);
        DUE.is("one, below 0", Due.of(ROUND + "says 5 0 1;says 5 1 1;").truest(), 0);
        DUE.is("0 rather than below", Due.of(ROUND + "needle 40 40 1 0;says 5 0 1;says 5 1 1;").truest(), 1);
        SaucerFair below = Due.of(ROUND + "needle 10 12 40 0;says 5 0 1;says 5 1 1;");
        // the second shows up, at neither: both are -2
        DUE.is("two like ones below 0", below.truest(), 0);
        below.tell(7, 2, 9);
        below.rust(0, 9);
        DUE.is("0 and -1", below.truest(), 0);
    }

    /** "THE FIRST HOUR in which one is ACCUSED; none." */
    private static void firstHours() {
        for (int hour : new int[] {0, 1, 50, 98, 99}) {
            DUE.is("hour " + hour, Due.of("one 1 1 1;court hour=" + hour + ";").first(0), hour);
            DUE.is("from hour " + hour, Due.of(ROUND + "says " + hour + " 1 1;").first(1), hour);
            DUE.is("never the other one", Due.of(ROUND + "says " + hour + " 1 1;").first(0), -1);
        }
        DUE.is("none", Due.of("one 1 1 1;court hour=100;").first(0), -1);
        DUE.is("the first of many", Due.of("one 1 1 1;court hour/10*10=hour and 0<hour;").first(0), 10);
    }

    /** "THE BUSIEST HOUR (1 to 99): that in which most NEEDLES SHOW otherwise than in the one ahead (of like ones the first)". */
    private static void busiestHours() {
        for (int hour : new int[] {0, 1, 2, 50, 98, 99}) {
            SaucerFair x = Due.of(ROUND + "says " + hour + " 1 1;");
            DUE.is("hour " + hour, x.busiest(0), hour == 0 ? -1 : hour);
            DUE.is("how many in " + hour, x.busiest(1), hour == 0 ? 0 : 1);
        }
        DUE.is("of like ones the first", Due.of(ROUND + "says 70 1 1;says 30 0 1;says 99 2 1;").busiest(0), 30);
        SaucerFair two = Due.of(TWO + "says 10 0 1;says 20 1 3;says 30 0 2;says 40 0 3;");
        // hour 10: the first; 20: both; 30: the second; 40: the first alone, as the second is left already
        DUE.is("both", two.busiest(0), 20);
        DUE.is("two", two.busiest(1), 2);
        SaucerFair same = Due.of(ROUND + "says 0 1 1;says 7 1 1;");
        DUE.is("the same again", same.busiest(0), -1);
        DUE.is("none does", same.busiest(1), 0);
        SaucerFair six = Due.of(SIX + BELOW + "turns 1;says 50 0 9;");
        DUE.is("six", six.busiest(1), 6);
        DUE.is("no NEEDLES", Due.of("one 1 1 1;says 50 0 9;").busiest(0), -1);
    }

    /** Lies more, "besides all SAYINGS", are no ACTS: there may be sixteen already. */
    private static void besidesSixteenSayings() {
        SaucerFair x = Due.of(ROUND + "says 5 0 1;" + "says 9 2 0;".repeat(15));
        DUE.is("no more can be TOLD", x.tell(5, 1, 9), -1);
        DUE.is("a PLAN", x.plan(1, 5, 9), 2);
        DUE.is("a GAME", x.game(0, 1, 5, 9, 1), 1);
        x.see(0, 5, 9);
        DUE.is("SUSPECTS", x.suspects(5), 2);
        DUE.is("SPOTS", x.spots(5, 0), 1);
        DUE.is("the first", x.spots(5, 1), 1020);
        DUE.is("as they were", x.count(2), 16);
        DUE.is("no ACTS", x.count(4), 0);
        SaucerFair said = Due.of("one 1 1 1;one 2 2 2;court said=17;" + "says 9 0 0;".repeat(16));
        DUE.is("a 17th, by a lie", said.game(0, 1, 9, 9, 1), 1);
        DUE.is("that alone", said.game(0, 1, 9, 9, 0), 1);
        DUE.is("not an hour ahead", said.game(0, 1, 8, 9, 1), 11);
    }

    /** The VALUES of TURNS for a lie that might be told: its HOUR, DEGREE, his SKILL, and those of the NEEDLE. */
    private static void turnsOfALieMore() {
        String fair = "one 0 10 7;one 20 10 7;needle 10 10 40 3;turns ";
        String[] so = {"hour=50", "degree=9", "skill=7", "far=10", "reach=40", "rust=3"};
        for (String turns : so) {
            SaucerFair x = Due.of(fair + turns + ";");
            x.see(0, 60, 6);
            isHeard(x, turns, 50, true);
            SaucerFair y = Due.of(fair + "not " + turns + ";");
            y.see(0, 60, 6);
            isHeard(y, "not " + turns, 50, false);
        }
        for (int told : new int[] {0, 1, 49, 50, 51}) {
            SaucerFair x = Due.of(fair + "hour=" + told + ";");
            x.see(0, 60, 6);
            for (int hour = 0; hour <= 60; hour++) {
                isHeard(x, "hour=" + told, hour, hour == told);
            }
        }
    }

    private static void isHeard(SaucerFair x, String turns, int hour, boolean heard) {
        String what = " by " + turns + " in " + hour;
        DUE.is("JUST" + what, x.just(9, hour, heard ? 0 : 2), 2);
        DUE.is("ALIBI" + what, x.alibi(0, 9, hour), 0);
        DUE.is("TELL APART" + what, x.apart(9, hour), heard ? 1 : -1);
        DUE.is("EARS" + what, x.ears(9, hour), heard ? 1 : -1);
        DUE.is("a PLAN" + what, x.plan(1, hour, 6), heard ? 1 : -1);
        DUE.is("a GAME" + what, x.game(0, 1, hour, 9, 1), heard ? 0 : 11);
        // he might have told a lie of another DEGREE
        DUE.is("SUSPECTS" + what, x.suspects(hour), heard || turns.endsWith("degree=9") ? 1 : 0);
        if (turns.indexOf("far") < 0) {
            DUE.is("HIDEOUTS" + what, x.hideouts(0, 9, hour, 0), heard ? 0 : 1681);
            // a stranger's SKILL is another one
            DUE.is("SPOTS" + what, x.spots(hour, 1) >= 0 ? 1 : 0, heard != turns.endsWith("skill=7") ? 1 : 0);
        }
    }

    /** In YEARS a SAYING's HOUR is that in which it is said: what the needle shows goes by the HOUR of the rule alone. */
    private static void turnsInYears() {
        int seen = 0;
        for (int told : new int[] {0, 1, 5, 6, 7, 50, 97, 98}) {
            SaucerFair x = Due.of("one 0 0 0;needle 1 1 9 0;turns hour=" + told + ";");
            for (int seed = 0; seed < 5; seed++) {
                int[] before = drawn(seed, told, 1);
                int[] with = drawn(seed, told + 1, 1);
                int[] all = drawn(seed, 99, 1);
                boolean lie = with[1] > before[1];
                seen += lie ? 1 : 0;
                DUE.is("rightly from " + told + " on", x.years(seed, 99, 0), lie ? all[1] - before[1] : 0);
                DUE.is("wrongly from " + told + " on", x.years(seed, 99, 2), lie ? all[2] - before[2] : 0);
                DUE.is("not ahead of it", x.years(seed, told, 0) + x.years(seed, told, 2), 0);
            }
        }
        DUE.isTrue("there were lies", seen > 20);
        SaucerFair skill = Due.of("one 0 0 4;needle 1 1 9 2;turns skill=4 and rust=2 and reach=9 and far=1 and 0<degree;");
        DUE.is("his SKILL, its RUST, REACH, FAR", skill.years(3, 99, 0), skill.years(3, 99, 1));
        SaucerFair nine = Due.of("one 0 0 4;needle 1 1 9 2;turns degree<0;");
        DUE.is("never", nine.years(3, 99, 0), 0);
    }

    /** 'hour' of COURT is the HOUR that is asked for. */
    private static void courtInEachHour() {
        SaucerFair x = Due.of("one 0 10 7;one 20 10 3;court (hour=50)*skill;");
        for (int hour = 0; hour <= 99; hour++) {
            boolean so = hour == 50;
            DUE.is("accused in " + hour, x.accused(hour), so ? 0 : -1);
            DUE.is("JUST in " + hour, x.just(1, hour, so ? 1 : 2), so ? 1 : 2);
            DUE.is("ALIBI in " + hour, x.alibi(0, 1, hour), so ? 2 : 0);
            DUE.is("a PARDON in " + hour, x.pardon(0, hour), so ? -1 : 0);
            DUE.is("a GAME in " + hour, x.game(0, 1, hour, 99, 1), 11);
        }
        DUE.is("VERDICTS", x.named(0, 1), 1);
        DUE.is("THE FIRST HOUR", x.first(0), 50);
    }
}
