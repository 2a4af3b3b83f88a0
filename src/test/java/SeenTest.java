/** Promises 24 to 29: what is SEEN, what was PLANTED, SUSPECTS, SPOTS, and ANOTHER SAUCER. */
final class SeenTest {
    private static final Due DUE = new Due("SeenTest");
    private static final String FAIR = "one 0 10 1;one 20 10 2;one 10 10 3;needle 10 10 40 3;needle 10 20 40 4;says 5 0 9;";

    public static void main(String[] args) {
        seeing();
        planting();
        suspecting();
        spotting();
        spotsByRule();
        saucers();
        badSaucers();
        DUE.end();
    }

    private static void seeing() {
        SaucerFair x = Due.of(FAIR);
        DUE.is("see", x.see(0, 5, 6), 1);
        DUE.is("nothing", x.see(1, 0, -1), 2);
        DUE.is("spins", x.see(1, 99, 9), 3);
        DUE.is("10", x.see(0, 0, 10), -1);
        DUE.is("-2", x.see(0, 0, -2), -1);
        DUE.is("refused", x.count(9), 2);
        DUE.noSuch("needle 2", () -> x.see(2, 0, 0));
        DUE.noSuch("needle -1, ahead", () -> x.see(-1, 0, 10));
        DUE.noSuch("hour 100, ahead", () -> x.see(0, 100, 10));
        DUE.noSuch("hour -1", () -> x.see(0, -1, 0));
        for (int i = 4; i <= 8; i++) {
            DUE.is("see", x.see(0, 5, 6), i);
        }
        DUE.is("a ninth", x.see(0, 5, 6), -1);
        DUE.is("refused then", x.count(9), 3);
        DUE.noSuch("needle 2 of eight", () -> x.see(2, 0, 0));
        DUE.is("seen", x.count(5), 8);
        DUE.is("that is no act", x.count(4), 0);
        x.forget();
        DUE.is("forgotten", x.count(5), 0);
        DUE.is("see again", x.see(0, 5, 6), 1);
    }

    private static void planting() {
        SaucerFair x = Due.of(FAIR);
        DUE.is("nothing is seen", x.planted(), 0);
        x.see(0, 4, -1);
        x.see(0, 5, 6);
        x.see(1, 5, 7);
        DUE.is("all is so", x.planted(), 0);
        x.see(1, 4, 7);
        DUE.is("the second one", x.planted(), 2);
        x.see(0, 99, 2);
        DUE.is("both", x.planted(), 3);
        x.forget();
        DUE.is("forgotten", x.planted(), 0);
        x.see(0, 99, 2);
        x.carry(0, 0, 9);
        DUE.is("it would be so elsewhere, but isn't", x.planted(), 1);
        x.forget();
        x.see(0, 99, 4);
        DUE.is("as if it had always been there", x.planted(), 0);
        x.undo();
        DUE.is("undone", x.planted(), 1);
    }

    private static void suspecting() {
        SaucerFair x = Due.of(FAIR);
        DUE.is("nothing is seen: all", x.suspects(0), 7);
        x.see(0, 8, 2);
        DUE.is("right of it", x.suspects(7), 2);
        DUE.is("in that hour", x.suspects(8), 2);
        DUE.is("behind it nobody", x.suspects(9), 0);
        DUE.is("ahead of what is heard nobody", x.suspects(4), 0);
        DUE.is("in the hour of what is heard, it would spin", x.suspects(5), 0);
        x.see(1, 8, 7);
        DUE.is("a small one that the second doesn't hear", x.suspects(7), 2);
        x.rust(1, 3);
        DUE.is("there is no such degree", x.suspects(7), 0);
        x.forget();
        x.see(0, 5, 9);
        DUE.is("it spun: with the right one", x.suspects(5), 2);
        x.forget();
        x.see(0, 8, 6);
        DUE.is("as it is: by who tells what it doesn't hear, or from there", x.suspects(7), 7);
        x.forget();
        x.see(0, 8, 8);
        DUE.is("flat: who is there", x.suspects(8), 4);
        x.rust(0, 8);
        DUE.is("by a lie of 9 alone", x.suspects(8), 4);
        DUE.is("by a lie of 1 alone", seenOnce("turns degree=1;").suspects(8), 4);
        DUE.is("by a lie of 5 alone", seenOnce("turns degree=5;").suspects(8), 4);
        DUE.is("by no lie", seenOnce("turns 9<degree;").suspects(8), 0);
        DUE.noSuch("hour 100", () -> x.suspects(100));
        DUE.noSuch("hour -1", () -> x.suspects(-1));
        DUE.is("nobody", new SaucerFair().suspects(0), 0);
    }

    private static SaucerFair seenOnce(String turns) {
        SaucerFair x = Due.of(FAIR + turns);
        x.see(0, 8, 8);
        return x;
    }

    private static void spotting() {
        SaucerFair x = Due.of("one 0 10 1;needle 10 10 3 3;says 5 0 9;");
        DUE.is("nothing is seen: everywhere", x.spots(0, 0), 1681);
        DUE.is("the first", x.spots(0, 1), 0);
        x.see(0, 5, 8);
        DUE.is("flat: there", x.spots(5, 0), 1);
        DUE.is("where", x.spots(5, 1), 1010);
        DUE.is("too late", x.spots(6, 0), 0);
        DUE.is("nowhere", x.spots(6, 1), -1);
        x.forget();
        x.see(0, 5, 2);
        // within its reach of 3: one each at 1 and 2 to the right, three at 3
        DUE.is("right of it", x.spots(5, 0), 5);
        DUE.is("the first by Y", x.spots(5, 1), 913);
        x.forget();
        x.see(0, 99, -1);
        DUE.is("out of its reach", x.spots(0, 0), 1681 - 49);
        DUE.is("the first out of its reach", x.spots(0, 1), 0);
        x.carry(0, 0, 0);
        DUE.is("the first out of reach in the corner", x.spots(0, 1), 4);
        x.forget();
        x.tell(20, 0, 9);
        x.carry(0, 0, 9);
        x.see(0, 20, 9);
        DUE.is("it spins: the opposite place", x.spots(20, 0), 1);
        DUE.is("where it is", x.spots(20, 1), 800);
        DUE.noSuch("hour 100", () -> x.spots(100, 0));
        DUE.noSuch("hour -1", () -> x.spots(-1, 0));
        DUE.noSuch("what 2", () -> x.spots(0, 2));
        DUE.noSuch("what -1", () -> x.spots(0, -1));
    }

    private static void spotsByRule() {
        SaucerFair x = Due.of("one 0 0 5;needle 20 20 60 0;turns skill=0 and degree=9 and hour=4 and far<2;");
        x.see(0, 50, 0);
        DUE.is("a stranger's skill, 9, that hour", x.spots(4, 0), 1);
        DUE.is("above it", x.spots(4, 1), 1920);
        DUE.is("another hour", x.spots(5, 0), 0);
        x.see(0, 3, -1);
        DUE.is("nothing ahead", x.spots(4, 0), 1);
        x.see(0, 50, 4);
        DUE.is("not both", x.spots(4, 0), 0);
    }

    private static void saucers() {
        SaucerFair x = Due.of("one 0 0 1;one 2 0 2;one 40 40 3;needle 1 1 5 0;says 0 0 1;says 0 1 1;");
        DUE.is("nobody", x.saucer(0, 0, 0), 0);
        DUE.is("the first place", x.saucer(0, 0, 1), 0);
        DUE.is("one", x.saucer(1, 0, 0), 1);
        DUE.is("one, where", x.saucer(1, 0, 1), 0);
        // at 0, 0 the first lies flat, the second is to the right, the third below
        DUE.is("three", x.saucer(7, 0, 0), 3);
        DUE.is("three, where", x.saucer(7, 0, 1), 0);
        SaucerFair y = Due.of("one 10 10 0;one 12 10 0;turns far<2;");
        DUE.is("nothing counts as one: flat or nothing, or a side", y.saucer(3, 0, 0), 2);
        DUE.is("the first that hears one", y.saucer(3, 0, 1), 909);
        SaucerFair z = Due.of("one 5 0 1;one 6 0 0;turns reach=60 and rust=0 and degree=9 and skill=1 and hour=7;");
        DUE.is("by its rule", z.saucer(3, 7, 0), 2);
        DUE.is("in another hour nothing", z.saucer(3, 6, 0), 1);
        SaucerFair up = Due.of("one 5 5 0;one 0 10 1;one 0 14 2;turns skill=1 and far=1 or skill=2 and far=3;");
        DUE.is("nothing, up and down", up.saucer(7, 0, 0), 3);
        DUE.is("where: up is not nothing", up.saucer(7, 0, 1), 1100);
        SaucerFair edge = Due.of("one 40 40 0;one 40 38 1;turns far<1 or skill=1 and far=3;");
        DUE.is("nothing, and one", edge.saucer(3, 0, 0), 2);
        DUE.is("the first of it", edge.saucer(3, 0, 1), 3537);
        SaucerFair row = Due.of("one 0 0 0;one 1 0 0;one 2 0 0;one 3 0 0;");
        // at 0, 0: 8, 2, 2, 2; at 1, 0: 6, 8, 2, 2; at 1, 1 but three, too: 7, 0, 1, 1
        DUE.is("four in a row", row.saucer(15, 0, 0), 3);
        DUE.is("where, the first of like ones", row.saucer(15, 0, 1), 1);
    }

    private static void badSaucers() {
        SaucerFair x = Due.of("one 0 0 1;one 2 0 2;");
        DUE.noSuch("hour 100", () -> x.saucer(0, 100, 0));
        DUE.noSuch("hour -1, ahead of the bits", () -> x.saucer(4, -1, 0));
        DUE.noSuch("what 2", () -> x.saucer(0, 0, 2));
        DUE.noSuch("what -1, ahead of the bits", () -> x.saucer(-1, 0, -1));
        DUE.illegal("person 2", () -> x.saucer(4, 0, 0));
        DUE.illegal("below 0", () -> x.saucer(-1, 0, 1));
        DUE.illegal("the highest bit", () -> x.saucer(Integer.MIN_VALUE, 0, 1));
    }
}
