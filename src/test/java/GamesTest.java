/** Promises 30 and 31: GAMES and YEARS. */
final class GamesTest {
    private static final Due DUE = new Due("GamesTest");
    private static final String PAIR = "one 0 10 1;one 20 10 2;one 10 0 0;needle 10 10 40 0;";

    public static void main(String[] args) {
        games();
        gamesBesides();
        badGames();
        years();
        yearsByHand();
        badYears();
        DUE.end();
    }

    private static void games() {
        SaucerFair x = Due.of(PAIR);
        // whoever lies alone is accused; both together let it spin, and nobody is
        DUE.is("both lie, or neither", x.game(0, 1, 5, 6, 0), 2);
        DUE.is("the first is that neither does", x.game(0, 1, 5, 6, 1), 0);
        DUE.is("a loss like the gain", x.game(0, 1, 5, 5, 0), 2);
        DUE.is("a loss that is smaller", x.game(0, 1, 5, 4, 0), 1);
        DUE.is("both lie", x.game(0, 1, 5, 4, 1), 11);
        DUE.is("nothing is lost", x.game(0, 1, 5, 0, 1), 11);
        // 0 and 2 together: 7, at nobody: both lie, too
        DUE.is("most is lost", x.game(0, 2, 5, 99, 0), 2);
        x.rust(0, 8);
        DUE.is("lies of 9 are heard over 8", x.game(0, 1, 5, 6, 0), 2);
        x.rust(0, 9);
        DUE.is("not over 9", x.game(0, 1, 5, 6, 0), 1);
        SaucerFair free = Due.of("one 1 1 1;one 2 2 2;court said*(hour=3)*(skill=2);");
        DUE.is("the second is accused if he lies", free.game(0, 1, 3, 6, 0), 1);
        DUE.is("the first one lies alone", free.game(0, 1, 3, 6, 1), 10);
        DUE.is("the other way round", free.game(1, 0, 3, 6, 1), 1);
        DUE.is("in another hour", free.game(0, 1, 4, 6, 1), 11);
        SaucerFair none = Due.of("one 5 1 1;one 2 2 2;needle 5 1 9 9;needle 2 2 9 9;turns far=0;"
            + "court flat*(said=1)*(skill=2)*2+(said=0)*(skill=1);");
        DUE.is("0 is accused if silent, unless 1 lies", none.game(0, 1, 0, 99, 1), 10);
        // accused are 1, 1, 0, 1: 1 would rather lie, 0 lie with him, 1 be silent, 0 be silent, and so on
        SaucerFair round = Due.of("one 5 5 3;one 10 5 1;one 5 20 7;needle 5 5 9 2;needle 20 5 30 0;says 3 1 4;says 7 2 9;");
        DUE.is("no couple rests", round.game(0, 1, 20, 9, 0), 0);
        DUE.is("there is no first", round.game(0, 1, 20, 9, 1), -1);
        SaucerFair chase = Due.of("one 1 1 1;one 2 2 2;court (said=1)*(skill=1);says 0 1 1;");
        DUE.is("who is silent may be accused", chase.game(0, 1, 3, 9, 1), 1);
    }

    private static void gamesBesides() {
        SaucerFair x = Due.of(PAIR + "says 5 0 1;");
        // 0 is accused if 1 is silent; else it spins if 0 is silent; else it points left again
        DUE.is("0 is accused but for 1's lie", x.game(0, 1, 5, 9, 0), 1);
        DUE.is("0 is silent, 1 lies", x.game(0, 1, 5, 9, 1), 1);
        DUE.is("later, both", x.game(0, 1, 6, 9, 1), 11);
        SaucerFair odd = Due.of("one 1 1 1;one 2 2 2;court (points=9)+(said=1)*(skill=1)+(said=2)*(skill=2)*2;says 0 0 0;says 0 1 0;");
        // 0 silent is accused unless 1 lies, then 1 is
        DUE.is("no couple but one", odd.game(0, 1, 1, 9, 1), 10);
    }

    private static void badGames() {
        SaucerFair x = Due.of(PAIR);
        DUE.noSuch("person 3", () -> x.game(3, 0, 0, 0, 0));
        DUE.noSuch("person -1", () -> x.game(0, -1, 0, 0, 0));
        DUE.noSuch("both none", () -> x.game(3, 3, 0, 0, 0));
        DUE.noSuch("hour 100, ahead", () -> x.game(0, 0, 100, 0, 0));
        DUE.noSuch("hour -1", () -> x.game(0, 1, -1, 0, 0));
        DUE.noSuch("what 2, ahead", () -> x.game(0, 1, 0, 100, 2));
        DUE.noSuch("what -1", () -> x.game(0, 1, 0, 0, -1));
        DUE.illegal("both are one", () -> x.game(1, 1, 0, 0, 0));
        DUE.illegal("100", () -> x.game(0, 1, 0, 100, 0));
        DUE.illegal("-1", () -> x.game(0, 1, 0, -1, 0));
    }

    private static int lies(int seed, int n, int people) {
        int state = seed;
        int found = 0;
        for (int i = 0; i < n; i++) {
            state = (state * 1103515245 + 12345) * 1103515245 + 12345;
            found += (state >> 16 & 32767) % 10 > 0 ? 1 : 0;
        }
        return people == 0 ? 0 : found;
    }

    private static void years() {
        // one whose every lie is heard, and who is alone: accused for ever behind the first one
        SaucerFair x = Due.of("one 0 0 0;needle 1 1 9 0;says 50 0 1;");
        for (int seed = -3; seed < 9; seed++) {
            int lies = lies(seed, 99, 1);
            DUE.is("lies", x.years(seed, 99, 1), lies);
            DUE.is("rightly", x.years(seed, 99, 0), lies);
            DUE.isTrue("wrongly", x.years(seed, 99, 2) <= 99 - lies);
        }
        DUE.is("no hours", x.years(1, 0, 0) + x.years(1, 0, 1) + x.years(1, 0, 2), 0);
        DUE.is("the sayings stay", x.count(2), 1);
        DUE.is("no acts", x.count(4), 0);
        SaucerFair always = Due.of("one 0 0 0;court 1;");
        DUE.is("true, yet accused", always.years(5, 99, 2), 99 - lies(5, 99, 1));
        DUE.is("a lie, and accused", always.years(5, 99, 0), lies(5, 99, 1));
        SaucerFair never = Due.of("one 0 0 0;court 0;");
        DUE.is("never accused", never.years(5, 99, 0) + never.years(5, 99, 2), 0);
        DUE.is("yet lies", never.years(5, 99, 1), lies(5, 99, 1));
        SaucerFair first = Due.of("one 0 0 0;court (hour=0)*(said=1);says 0 0 0;");
        DUE.is("hour 0, one saying", first.years(7, 99, 0) + first.years(7, 99, 2), 1);
        SaucerFair last = Due.of("one 0 0 0;court (hour=98)*(said=99);");
        DUE.is("hour 98, all sayings", last.years(7, 99, 0) + last.years(7, 99, 2), 1);
        DUE.is("not so far", last.years(7, 98, 0) + last.years(7, 98, 2), 0);
        DUE.is("nobody", new SaucerFair().years(5, 99, 1), 0);
    }

    private static void yearsByHand() {
        // seed 1: 1103527590 -> 16838 of 2 is 0; then 2524885223 -> 5758 of 10 is 8
        SaucerFair x = Due.of("one 0 0 0;one 9 9 0;needle 1 1 3 0;");
        DUE.is("a lie of 8 of the first", x.years(1, 1, 1), 1);
        DUE.is("heard", x.years(1, 1, 0), 1);
        SaucerFair eight = Due.of("one 0 0 0;one 9 9 0;needle 1 1 3 7;");
        DUE.is("heard over a rust of 7", eight.years(1, 1, 0), 1);
        SaucerFair nine = Due.of("one 0 0 0;one 9 9 0;needle 1 1 3 8;");
        DUE.is("not over a rust of 8", nine.years(1, 1, 0), 0);
    }

    private static void badYears() {
        SaucerFair x = Due.of(PAIR);
        DUE.noSuch("what 3", () -> x.years(0, 0, 3));
        DUE.noSuch("what -1, ahead", () -> x.years(0, 100, -1));
        DUE.illegal("100", () -> x.years(0, 100, 0));
        DUE.illegal("-1", () -> x.years(0, -1, 0));
        DUE.illegal("nobody, 100", () -> new SaucerFair().years(0, 100, 0));
    }
}
