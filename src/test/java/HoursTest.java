/** Promises 32 to 35 and 38 to 42: what all HOURS together tell, and PARDONS. */
final class HoursTest {
    private static final Due DUE = new Due("HoursTest");
    private static final String LINE = "one 10 10 2;one 0 10 4;one 20 10 6;needle 10 10 40 0;";

    public static void main(String[] args) {
        howLong();
        names();
        butFor();
        rusted();
        pardons();
        falsely();
        truest();
        firsts();
        busiest();
        DUE.end();
    }

    private static void howLong() {
        SaucerFair x = Due.of(LINE + "says 10 0 1;says 30 1 1;says 30 2 1;says 60 1 1;says 99 2 1;");
        DUE.is("nothing", x.shown(0, -1), 10);
        DUE.is("flat", x.shown(0, 8), 20);
        DUE.is("spins", x.shown(0, 9), 30);
        DUE.is("left", x.shown(0, 6), 39);
        DUE.is("right", x.shown(0, 2), 1);
        DUE.is("up", x.shown(0, 0), 0);
        DUE.noSuch("needle 1", () -> x.shown(1, 0));
        DUE.noSuch("needle -1", () -> x.shown(-1, 0));
        DUE.noSuch("side -2", () -> x.shown(0, -2));
        DUE.noSuch("side 10", () -> x.shown(0, 10));
    }

    private static void names() {
        SaucerFair x = Due.of(LINE + "needle 10 11 40 4;says 40 1 4;says 90 2 9;");
        DUE.is("by the first", x.named(1, 0), 50);
        DUE.is("by both", x.named(2, 0), 20);
        DUE.is("by none", x.named(0, 0), 0);
        DUE.is("verdicts", x.named(1, 1), 50);
        DUE.is("verdicts too", x.named(2, 1), 10);
        DUE.is("no verdicts", x.named(0, 1), 0);
        DUE.noSuch("person 3", () -> x.named(3, 0));
        DUE.noSuch("person -1", () -> x.named(-1, 0));
        DUE.noSuch("what 2", () -> x.named(0, 2));
        DUE.noSuch("what -1", () -> x.named(0, -1));
        SaucerFair ever = Due.of(LINE + "says 0 1 1;");
        DUE.is("hours 0 to 99", ever.named(1, 0), 100);
        DUE.is("verdicts of hours 0 to 99", ever.named(1, 1), 100);
        SaucerFair ruled = Due.of("one 1 1 1;one 2 2 2;court (hour<7)*skill;");
        DUE.is("verdicts by a rule", ruled.named(1, 1), 7);
    }

    private static void butFor() {
        SaucerFair x = Due.of(LINE + "needle 10 20 40 3;says 40 1 4;says 90 2 9;says 50 1 2;says 95 0 0;");
        DUE.is("both would show nothing for long: 10 and 50", x.butFor(0), 60);
        DUE.is("both would show the left", x.butFor(1), 20);
        DUE.is("as before", x.butFor(2), 0);
        DUE.is("true", x.butFor(3), 0);
        DUE.is("all stays", x.shows(0, 99), 2);
        DUE.noSuch("saying 4", () -> x.butFor(4));
        DUE.noSuch("saying -1", () -> x.butFor(-1));
        SaucerFair twice = Due.of(LINE + "says 10 1 1;says 10 1 1;says 10 2 1;");
        DUE.is("it would spin", twice.butFor(0), 90);
        DUE.is("still left", twice.butFor(2), 0);
    }

    private static void rusted() {
        SaucerFair x = Due.of(LINE + "needle 0 0 1 0;says 1 0 4;says 2 1 6;says 3 2 2;");
        DUE.is("the highest degree", x.rusted(0), 6);
        DUE.is("it hears none", x.rusted(1), 0);
        DUE.noSuch("needle 2", () -> x.rusted(2));
        DUE.noSuch("needle -1", () -> x.rusted(-1));
        x.tell(4, 0, 9);
        DUE.is("nine", x.rusted(0), 9);
        DUE.is("its own rust stays", x.needle(0, 3), 0);
        DUE.is("none by its rule", Due.of(LINE + "turns 1;says 0 0 1;").rusted(0), -1);
        DUE.is("5 by its rule", Due.of(LINE + "turns not rust=5;says 0 0 1;").rusted(0), 5);
        DUE.is("no sayings", Due.of(LINE + "turns 1;").rusted(0), 0);
    }

    private static void pardons() {
        SaucerFair x = Due.of("one 0 10 0;one 20 10 0;needle 10 10 40 0;needle 10 9 40 0;needle 11 11 9 0;says 5 0 1;says 5 1 0;");
        DUE.is("ahead of it", x.pardon(0, 4), 0);
        DUE.is("another one", x.pardon(1, 5), 0);
        DUE.is("both that point at him", x.pardon(0, 5), 3);
        x.tell(6, 1, 1);
        DUE.is("all three", x.pardon(1, 6), 7);
        DUE.noSuch("person 2", () -> x.pardon(2, 0));
        DUE.noSuch("person -1", () -> x.pardon(-1, 0));
        DUE.noSuch("hour 100", () -> x.pardon(0, 100));
        DUE.noSuch("hour -1", () -> x.pardon(0, -1));
        DUE.is("none", Due.of(LINE + "court skill;").pardon(2, 0), -1);
        SaucerFair rival = Due.of("one 0 10 0;one 20 10 0;needle 10 10 40 0;needle 19 0 19 0;needle 10 12 15 0;"
            + "says 5 0 1;says 6 1 1;turns (hour=5)*(reach=40)+(hour=6)*(reach=19)+(hour=5)*(reach=15);");
        // the first and the third point at 0, the second at 1: taking one away leaves a tie, which 0 still has
        DUE.is("two of them", rival.pardon(0, 6), 5);
        SaucerFair flat = Due.of(LINE + "needle 3 3 9 9;court flat;says 1 0 1;");
        DUE.is("the flat one", flat.pardon(0, 1), 1);
    }

    private static void falsely() {
        SaucerFair x = Due.of("one 20 10 0;one 30 10 0;one 0 10 0;needle 10 10 20 0;turns not skill=9;says 5 1 1;");
        DUE.is("he is among them", x.falsely(0), 0);
        SaucerFair sum = Due.of("one 20 0 0;one 0 0 0;one 10 0 0;needle 10 10 40 0;says 5 0 1;says 5 1 1;says 50 2 1;");
        // 7 and 1 together point up, at the third, who lies only later
        DUE.is("for 45 hours", sum.falsely(0), 45);
        sum.back();
        DUE.is("for ever", sum.falsely(0), 95);
        sum.tell(20, 2, 0);
        DUE.is("what is true is no lie", sum.falsely(0), 95);
        SaucerFair nobody = Due.of("one 20 0 0;one 0 0 0;needle 10 10 40 0;says 5 0 1;says 5 1 1;");
        DUE.is("at nobody", nobody.falsely(0), 0);
        SaucerFair unheard = Due.of("one 20 0 0;one 0 0 0;one 10 0 0;needle 10 10 40 5;says 5 0 9;says 5 1 9;says 50 2 1;");
        DUE.is("a lie that it doesn't hear is a lie", unheard.falsely(0), 45);
        DUE.noSuch("needle 1", () -> x.falsely(1));
        DUE.noSuch("needle -1", () -> x.falsely(-1));
    }

    private static void truest() {
        DUE.is("none", new SaucerFair().truest(), -1);
        DUE.is("of like ones the least", Due.of("needle 1 1 1 1;needle 2 2 1 1;").truest(), 0);
        SaucerFair x = Due.of(LINE + "needle 10 20 40 0;needle 30 10 40 0;says 5 1 1;says 5 2 1;");
        // the first spins: -2; the second points up: -2; the third points left at both: 2
        DUE.is("the third", x.truest(), 2);
        SaucerFair y = Due.of(LINE + "needle 0 0 1 0;says 5 1 1;says 5 2 1;");
        DUE.is("0 is more than -2", y.truest(), 1);
        SaucerFair below = Due.of(LINE + "says 5 1 1;says 5 2 1;");
        DUE.is("the only one, though below 0", below.truest(), 0);
    }

    private static void firsts() {
        SaucerFair x = Due.of(LINE + "says 40 1 4;says 90 2 9;says 99 0 9;");
        DUE.is("40", x.first(1), 40);
        DUE.is("90", x.first(2), 90);
        DUE.is("none", x.first(0), -1);
        DUE.noSuch("person 3", () -> x.first(3));
        DUE.noSuch("person -1", () -> x.first(-1));
        DUE.is("hour 0", Due.of("one 1 1 1;court skill;").first(0), 0);
        DUE.is("hour 99", Due.of("one 1 1 1;court hour=99;").first(0), 99);
    }

    private static void busiest() {
        SaucerFair x = Due.of(LINE + "needle 10 20 40 3;says 0 0 9;says 40 1 4;says 90 2 9;says 50 2 2;");
        DUE.is("the first of like ones", x.busiest(0), 40);
        DUE.is("both", x.busiest(1), 2);
        x.undo();
        DUE.noSuch("what 2", () -> x.busiest(2));
        DUE.noSuch("what -1", () -> x.busiest(-1));
        SaucerFair none = Due.of(LINE + "says 0 0 9;says 7 0 9;");
        DUE.is("hour 0 has none ahead", none.busiest(0), -1);
        DUE.is("how many", none.busiest(1), 0);
        SaucerFair late = Due.of(LINE + "needle 10 20 40 3;says 3 1 1;says 99 2 9;");
        DUE.is("hour 99", late.busiest(0), 99);
        DUE.is("both in hour 99", late.busiest(1), 2);
    }
}
