/** Promises 19 to 23, 36 and 37: clashes, ONE LIE alone, PLANS, EARS and HIDEOUTS. */
final class LiesTest {
    private static final Due DUE = new Due("LiesTest");
    // two needles above one another, people left, right, and at the first needle's place
    private static final String FAIR = "one 0 10 1;one 20 10 2;one 10 10 3;needle 10 10 40 0;needle 10 20 40 4;";

    public static void main(String[] args) {
        clashes();
        justice();
        tellingApart();
        alibis();
        plans();
        badPlans();
        ears();
        hideouts();
        DUE.end();
    }

    private static void clashes() {
        SaucerFair x = Due.of(FAIR + "says 3 0 4;says 5 0 5;says 8 1 1;");
        // hour 5: the second shows 7, at person 0 alone; hour 8: the first shows 2, at person 1 alone
        DUE.is("clash", x.clash(), 8);
        x.back();
        DUE.is("no clash", x.clash(), -1);
        x.tell(9, 2, 9);
        DUE.is("a flat one points at nobody", x.clash(), -1);
        x.tell(0, 0, 9);
        x.tell(0, 0, 9);
        DUE.is("both at one", x.clash(), -1);
        SaucerFair y = Due.of("one 0 5 0;one 20 5 0;needle 10 5 9 0;needle 10 6 40 0;"
            + "turns far<11 and reach=9*degree or degree=5;says 0 0 1;");
        DUE.is("one that shows nothing", y.clash(), -1);
        y.tell(0, 1, 5);
        DUE.is("one spins", y.shows(0, 0), 9);
        DUE.is("no clash with one that spins", y.clash(), -1);
    }

    private static void justice() {
        SaucerFair x = Due.of(FAIR + "says 0 1 9;");
        // he at the first needle's place too: it is flat, but the second points up, at him alone
        DUE.is("lies of 9: all rightly", x.just(9, 50, 0), 3);
        DUE.is("nobody wrongly", x.just(9, 50, 1), 0);
        DUE.is("lies of 4: the second needle hears none", x.just(4, 50, 2), 1);
        SaucerFair y = Due.of("one 10 10 3;one 10 5 0;needle 10 10 40 0;");
        DUE.is("flat: nobody", y.just(9, 0, 2), 1);
        DUE.is("rightly", y.just(9, 0, 0), 1);
        SaucerFair w = Due.of("one 10 5 3;one 10 4 0;needle 10 10 40 0;");
        DUE.is("the nearer one stands first", w.just(1, 99, 0), 1);
        DUE.is("wrongly", w.just(1, 99, 1), 1);
        SaucerFair said = Due.of("one 1 1 0;one 2 2 0;one 3 3 0;court said*(hour=7);says 0 0 1;says 0 0 1;");
        DUE.is("no sayings else", said.just(1, 7, 0), 3);
        DUE.is("in another hour", said.just(1, 6, 2), 3);
        DUE.noSuch("what 3", () -> x.just(9, 0, 3));
        DUE.noSuch("what -1, ahead of the degree", () -> x.just(0, 100, -1));
        DUE.illegal("degree 0", () -> x.just(0, 0, 0));
        DUE.illegal("degree 10", () -> x.just(10, 0, 0));
        DUE.illegal("hour -1", () -> x.just(1, -1, 0));
        DUE.illegal("hour 100", () -> x.just(1, 100, 0));
        SaucerFair nobody = new SaucerFair();
        DUE.is("nobody", nobody.just(1, 0, 0) + nobody.just(1, 0, 1) + nobody.just(1, 0, 2), 0);
    }

    private static void tellingApart() {
        SaucerFair x = Due.of(FAIR + "says 0 1 9;");
        DUE.is("the first alone", x.apart(9, 0), 1);
        x.rust(0, 9);
        DUE.is("the second alone", x.apart(9, 0), 2);
        DUE.is("none, for it hears nothing", x.apart(4, 0), -1);
        SaucerFair two = Due.of("one 0 10 0;one 0 11 0;one 20 10 0;one 20 30 0;"
            + "needle 10 10 40 0;needle 0 0 40 0;needle 1 11 40 0;needle 1 10 40 0;");
        // the third shows 7, 6, 2, 3, the fourth 6, 5, 2, 3; the others show 0 and 1 alike
        DUE.is("one of two, the least as bits", two.apart(9, 0), 4);
        SaucerFair one = Due.of("one 0 0 0;");
        DUE.is("one is apart", one.apart(1, 0), 0);
        SaucerFair pair = Due.of("one 0 0 0;one 1 1 1;");
        DUE.is("two without needles", pair.apart(1, 0), -1);
        SaucerFair heard = Due.of("one 0 0 0;one 9 9 1;needle 0 1 1 0;needle 9 8 1 0;");
        DUE.is("nothing is unlike something", heard.apart(1, 0), 1);
        SaucerFair three = Due.of("one 0 10 0;one 1 10 0;one 19 10 0;one 20 10 0;needle 10 10 40 0;needle 1 11 40 0;needle 19 11 40 0;");
        // 0, 1 | 2, 3 for the first; the second: 0 is 7, 1 is 0, both others are 2; the third: 0, 1 are 6, 2 is 0, 3 is 1
        DUE.is("second and third", three.apart(9, 0), 6);
        DUE.illegal("degree 0", () -> x.apart(0, 0));
        DUE.illegal("degree 10", () -> x.apart(10, 0));
        DUE.illegal("hour -1", () -> x.apart(1, -1));
        DUE.illegal("hour 100", () -> x.apart(1, 100));
        DUE.is("nobody", new SaucerFair().apart(1, 0), 0);
    }

    private static void alibis() {
        SaucerFair x = Due.of("one 10 5 3;one 10 4 0;one 20 10 0;one 10 0 0;needle 10 10 40 0;says 0 2 9;");
        DUE.is("for the two behind him", x.alibi(0, 1, 0), 10);
        DUE.is("for nobody", x.alibi(1, 1, 0), 0);
        DUE.is("not for himself", x.alibi(2, 1, 0), 0);
        SaucerFair last = Due.of("one 1 1 1;one 2 2 2;one 3 3 9;court skill;");
        DUE.is("for all others", last.alibi(2, 1, 0), 3);
        SaucerFair hour = Due.of("one 1 1 1;one 2 2 0;court skill*(hour=5);");
        DUE.is("in hour 5", hour.alibi(0, 9, 5), 2);
        DUE.is("in hour 6", hour.alibi(0, 9, 6), 0);
        DUE.noSuch("person 4", () -> x.alibi(4, 1, 0));
        DUE.noSuch("person -1, ahead of the degree", () -> x.alibi(-1, 0, 0));
        DUE.illegal("degree 0", () -> x.alibi(0, 0, 0));
        DUE.illegal("degree 10", () -> x.alibi(0, 10, 0));
        DUE.illegal("hour -1", () -> x.alibi(0, 1, -1));
        DUE.illegal("hour 100", () -> x.alibi(0, 1, 100));
    }

    private static void plans() {
        SaucerFair x = Due.of(FAIR + "says 5 0 9;");
        DUE.is("it does already", x.plan(1, 5, 6), 0);
        DUE.is("still, later", x.plan(1, 60, 6), 0);
        DUE.is("no needles", x.plan(0, 0, 3), 0);
        DUE.is("left, ahead of it", x.plan(1, 4, 6), 1);
        DUE.is("right, behind it", x.plan(1, 6, 2), 2);
        DUE.is("right, in that hour, would spin", x.plan(1, 5, 2), -1);
        DUE.is("it spins with the right one", x.plan(1, 5, 9), 2);
        DUE.is("it spins by both", x.plan(1, 6, 9), 3);
        DUE.is("flat", x.plan(1, 6, 8), 4);
        DUE.is("flat in that hour: never", x.plan(1, 5, 8), -1);
        DUE.is("both up: the first never", x.plan(3, 6, 0), -1);
        DUE.is("the second up: by the one above it", x.plan(2, 6, 0), 4);
        DUE.is("the second up in that hour: by the right one", x.plan(2, 5, 0), 2);
        DUE.is("both to the lower right", x.plan(3, 6, 3), -1);
        DUE.is("both flat", x.plan(3, 6, 8), -1);
        SaucerFair four = Due.of("one 0 1 0;one 1 0 0;one 0 0 0;one 0 2 0;needle 4 4 40 0;turns degree=9;says 5 0 9;");
        DUE.is("up left", four.plan(1, 0, 7), 1);
        SaucerFair three = Due.of("one 9 9 0;one 11 9 0;one 10 12 0;one 20 20 0;needle 10 10 40 0;");
        DUE.is("three of them let it spin", three.plan(1, 0, 9), 7);
        SaucerFair fourth = Due.of("one 9 9 0;one 11 9 0;one 10 11 0;one 10 12 0;needle 10 10 40 0;needle 11 10 40 0;");
        DUE.is("not even three", fourth.plan(3, 0, 9), -1);
        SaucerFair onlyFour = Due.of("one 11 10 0;one 12 10 0;one 13 10 0;one 4 10 0;needle 10 10 40 0;");
        DUE.is("four would, but that are too many", onlyFour.plan(1, 0, 9), -1);
        SaucerFair more = Due.of("one 9 10 0;one 10 9 0;one 12 10 0;one 8 10 0;one 11 10 0;one 30 10 0;needle 10 10 40 0;");
        DUE.is("two, of which the least as bits", more.plan(1, 0, 9), 12);
        SaucerFair sixteen = Due.of(FAIR);
        for (int i = 0; i < 16; i++) {
            sixteen.tell(5, 0, 1);
        }
        DUE.is("besides sixteen sayings: never", sixteen.plan(1, 5, 9), -1);
        DUE.is("besides sixteen sayings: still left", sixteen.plan(1, 5, 6), 0);
    }

    private static void badPlans() {
        SaucerFair x = Due.of(FAIR);
        DUE.noSuch("hour -1", () -> x.plan(1, -1, 0));
        DUE.noSuch("hour 100, ahead of the rest", () -> x.plan(4, 100, 10));
        DUE.illegal("needle 2", () -> x.plan(4, 0, 0));
        DUE.illegal("below 0", () -> x.plan(-1, 0, 0));
        DUE.illegal("the highest bit", () -> x.plan(Integer.MIN_VALUE, 0, 0));
        DUE.illegal("side -1", () -> x.plan(1, 0, -1));
        DUE.illegal("side 10", () -> x.plan(1, 0, 10));
    }

    private static void ears() {
        SaucerFair x = Due.of("one 0 0 0;one 20 0 0;one 40 0 0;needle 10 0 10 0;needle 20 5 5 0;needle 30 0 10 5;needle 20 20 20 8;");
        DUE.is("the wide one alone", x.ears(9, 0), 8);
        DUE.is("two of them", x.ears(6, 0), 5);
        DUE.is("none", x.ears(5, 0), -1);
        DUE.illegal("degree 0", () -> x.ears(0, 0));
        DUE.illegal("degree 10", () -> x.ears(10, 0));
        DUE.illegal("hour -1", () -> x.ears(1, -1));
        DUE.illegal("hour 100", () -> x.ears(1, 100));
        DUE.is("nobody", Due.of("needle 0 0 5 0;").ears(1, 0), 0);
        DUE.is("no needles", Due.of("one 0 0 5;").ears(1, 0), -1);
        SaucerFair turned = Due.of("one 0 0 0;needle 0 1 9 9;needle 9 9 1 9;turns hour=3 and reach=1;");
        DUE.is("by its rule", turned.ears(1, 3), 2);
        DUE.is("in another hour", turned.ears(1, 2), -1);
    }

    private static void hideouts() {
        SaucerFair x = Due.of("one 3 3 4;needle 20 20 19 5;");
        // out of reach: the frame of 41 by 41 places, 39 by 39 being within
        DUE.is("the frame", x.hideouts(0, 9, 0, 0), 1681 - 39 * 39);
        DUE.is("its first", x.hideouts(0, 9, 0, 1), 0);
        DUE.is("everywhere", x.hideouts(0, 5, 0, 0), 1681);
        SaucerFair all = Due.of("one 3 3 4;needle 20 20 20 5;");
        DUE.is("none", all.hideouts(0, 9, 0, 0), 0);
        DUE.is("no first", all.hideouts(0, 9, 0, 1), -1);
        SaucerFair some = Due.of("one 3 3 4;one 1 0 0;needle 0 0 1 0;turns far<2 or far=40 or skill=0 or hour=9;");
        DUE.is("the first is behind the near ones", some.hideouts(0, 9, 0, 1), 2);
        DUE.is("without the near and the far ones", some.hideouts(0, 9, 0, 0), 1681 - 4 - 81);
        DUE.is("by his skill none", some.hideouts(1, 9, 0, 0), 0);
        DUE.is("in that hour none", some.hideouts(0, 1, 9, 1), -1);
        SaucerFair row = Due.of("one 0 0 0;needle 20 5 30 0;");
        DUE.is("below", row.hideouts(0, 1, 0, 1), 3600);
        DUE.noSuch("person 1", () -> x.hideouts(1, 1, 0, 0));
        DUE.noSuch("what 2", () -> x.hideouts(0, 1, 0, 2));
        DUE.noSuch("what -1, ahead of the degree", () -> x.hideouts(0, 0, 0, -1));
        DUE.illegal("degree 0", () -> x.hideouts(0, 0, 0, 0));
        DUE.illegal("degree 10", () -> x.hideouts(0, 10, 0, 0));
        DUE.illegal("hour -1", () -> x.hideouts(0, 1, -1, 0));
        DUE.illegal("hour 100", () -> x.hideouts(0, 1, 100, 1));
    }
}
