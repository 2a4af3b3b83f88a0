/** Promises 2 to 4, and the language of TEXTS: every FAULT, its place, and what an EXPR gives. */
final class TextTest {
    private static final Due DUE = new Due("TextTest");

    public static void main(String[] args) {
        feeding();
        taking();
        words();
        numbers();
        lines();
        tooMuch();
        exprs();
        nesting();
        values();
        whatStays();
        whatGoes();
        DUE.end();
    }

    private static void fault(String text, int kind, int place) {
        SaucerFair x = new SaucerFair();
        DUE.is("fair of '" + text + "'", Due.read(x, text), kind);
        DUE.is("fault of '" + text + "'", x.fault(), place);
        DUE.is("faulty texts behind '" + text + "'", x.count(7), kind == 0 ? 0 : 1);
    }

    private static void fine(String text) {
        fault(text, 0, -1);
    }

    private static void feeding() {
        SaucerFair x = new SaucerFair();
        for (int i = 1; i <= 35; i++) {
            DUE.is("feed " + i, x.feed(0x20202020, 0x20202020, 0x20202020, 0x20202020, 0x20202020), 20 * i);
        }
        DUE.is("feed beyond 700", x.feed(1, 2, 3, 4, 5), -1);
        DUE.is("the tape then", x.count(6), 700);
        DUE.is("700 blanks", x.fair(700), 0);
        DUE.is("the tape behind fair", x.count(6), 0);
        DUE.is("no text was faulty", x.count(7), 0);
        // 'one 1 2 3;' of which each number's highest byte comes first
        DUE.is("feed", x.feed(0x6f6e6520, 0x31203220, 0x333b2020, 0x20202020, 0x20202020), 20);
        DUE.is("fair", x.fair(20), 0);
        DUE.is("X", x.one(0, 0), 1);
        DUE.is("Y", x.one(0, 1), 2);
        DUE.is("SKILL", x.one(0, 2), 3);
    }

    private static void taking() {
        SaucerFair x = new SaucerFair();
        DUE.is("fault of a new object", x.fault(), -1);
        DUE.illegal("more than there are", () -> x.fair(1));
        DUE.illegal("below 0", () -> x.fair(-1));
        DUE.illegal("far below 0", () -> x.fair(Integer.MIN_VALUE));
        DUE.is("fair of nothing", x.fair(0), 0);
        Due.feed(x, "one 1 1 1;#");
        DUE.illegal("21 of 20", () -> x.fair(21));
        DUE.is("the tape stays then", x.count(6), 20);
        DUE.is("the first ten", x.fair(10), 0);
        DUE.is("the rest is gone", x.count(6), 0);
        DUE.is("people", x.count(0), 1);
        Due.feed(x, "one 2");
        DUE.is("cut short", x.fair(3), 1);
        DUE.is("where it ends", x.fault(), 3);
        DUE.is("the tape is empty behind a fault too", x.count(6), 0);
        DUE.illegal("too many", () -> x.fair(1));
        DUE.is("the fault stays", x.fault(), 3);
        DUE.is("one faulty text", x.count(7), 1);
        DUE.is("fair of nothing again", x.fair(0), 0);
        DUE.is("without", x.fault(), -1);
        DUE.is("nobody", x.count(0), 0);
    }

    private static void words() {
        fine(" \n\n ");
        fine("one5 6 7;");
        fine("one\n5\n6 7 ;\n");
        fault("one 5 5 3", 1, 9);
        fault("one 5 5 3  ", 1, 11);
        fault("One 1 1 1;", 1, 0);
        fault("ones 1 1 1;", 1, 0);
        fault("on e 1 1 1;", 1, 0);
        fault("xne 1 1 1;", 1, 0);
        fault("onx 1 1 1;", 1, 0);
        fault("5;", 1, 0);
        fault(";", 1, 0);
        fault("#", 1, 0);
        fault("\t", 1, 0);
        fault("\r", 1, 0);
        fault("\u0000", 1, 0);
        fault("\u00e9", 1, 0);
        fault("one 1 1 1,", 1, 9);
        fault("one 1 1 1.", 1, 9);
        fault("one 1 1 1:", 1, 9);
        fault("court 1 > 2;", 1, 8);
        fault("court 1 ' 2;", 1, 8);
        fault("court `;", 1, 6);
        fault("court {;", 1, 6);
        fault("one 1 1 1;;", 1, 10);
        fault("one 1 1 1; saucer 1", 1, 11);
    }

    private static void numbers() {
        fine("one 0001 0000 0009;");
        fault("one 00001 1 1;", 2, 4);
        fault("one 99999999999 1 1;", 2, 4);
        fault("one x 1 1;", 1, 4);
        fault("one ;", 1, 4);
        fault("one - 1 1 1;", 1, 4);
        fault("one 1 1 1 1;", 1, 10);
        fault("one 1 1 1 12345;", 1, 10);
        fine("one 0 40 0;one 40 0 9;");
        fault("one 41 41 10;", 2, 4);
        fault("one 0 41 10;", 2, 6);
        fault("one 0 0 10;", 2, 8);
        fine("needle 0 40 1 0;needle 40 0 60 9;");
        fault("needle 41 0 1 0;", 2, 7);
        fault("needle 0 41 1 0;", 2, 9);
        fault("needle 0 0 0 0;", 2, 11);
        fault("needle 0 0 61 0;", 2, 11);
        fault("needle 0 0 60 10;", 2, 14);
        fine("one 0 0 0;says 0 0 0;says 99 0 9;");
        fault("one 0 0 0;says 100 0 0;", 2, 15);
        fault("one 0 0 0;says 0 0 10;", 2, 19);
        fault("one 0 0 0;says 0 0;", 1, 18);
        fault("one 0 0 0;says 0 0 0 0;", 1, 21);
    }

    private static void lines() {
        fault("one 1 1 0;one 1 1 10;", 4, 16);
        fault("one 1 1 0;one 1 41 10;", 2, 16);
        fault("one 1 1 0;one 2 2 0;one 1 1 1;", 4, 26);
        fine("one 1 1 0;one 1 2 0;one 2 1 0;");
        fine("one 1 1 0;needle 1 1 5 5;");
        fine("needle 1 1 5 5;one 1 1 0;");
        fine("needle 1 2 5 5;needle 2 1 5 5;needle 2 2 5 5;");
        fault("needle 1 1 5 5;needle 1 1 61 5;", 4, 24);
        fault("says 0 0 1;", 3, 7);
        fault("says 100 0 1;", 2, 5);
        fault("says 0 12345 1;", 2, 7);
        fault("says 0 10 1;", 3, 7);
        fault("says 0 9999 1;", 3, 7);
        fault("says 0 x 1;", 1, 7);
        fault("one 1 1 1;says 0 1 1;one 2 2 2;", 3, 17);
        fine("one 1 1 1;says 0 0 1;one 2 2 2;says 0 1 1;");
        fault("turns 1;turns 1;", 5, 8);
        fault("court 1;one 1 1 1;court", 5, 18);
        fine("turns 1;court 1;");
    }

    private static void tooMuch() {
        StringBuilder people = new StringBuilder();
        for (int i = 0; i < 10; i++) {
            people.append("one ").append(i).append(" 0 0;");
        }
        fine(people.toString());
        fault(people + "one x", 2, 100);
        StringBuilder needles = new StringBuilder();
        for (int i = 0; i < 6; i++) {
            needles.append("needle ").append(i).append(" 0 1 0;");
        }
        fine(needles.toString());
        fault(needles + "needle", 2, 90);
        StringBuilder sayings = new StringBuilder("one 0 0 0;");
        for (int i = 0; i < 16; i++) {
            sayings.append("says 0 0 1;");
        }
        fine(sayings.toString());
        fault(sayings + "says 100", 2, 186);
    }

    private static void exprs() {
        fault("turns;", 1, 5);
        fault("turns", 1, 5);
        fault("turns 1 2;", 1, 8);
        fault("turns 1 degree;", 1, 8);
        fault("turns 1 not;", 1, 8);
        fault("turns 1 one 1;", 1, 8);
        fault("turns 1 (2);", 1, 8);
        fault("turns 1 < 2 < 3;", 1, 12);
        fault("turns 1 = 2 < 3;", 1, 12);
        fault("turns 1 <= 2;", 1, 9);
        fault("turns 1 < not 2;", 3, 10);
        fault("turns 1 + not 2;", 3, 10);
        fault("turns 1 * or 2;", 3, 10);
        fault("turns or;", 3, 6);
        fault("turns not or 1;", 3, 10);
        fault("turns one;", 3, 6);
        fault("turns xyz;", 3, 6);
        fault("turns z;", 3, 6);
        fault("turns a;", 3, 6);
        fault("turns ();", 1, 7);
        fault("turns (1;", 1, 8);
        fault("turns 1);", 1, 7);
        fault("turns -1;", 1, 6);
        fault("turns 1 +;", 1, 9);
        fault("turns 1 and;", 1, 11);
        fault("turns 99999;", 2, 6);
        fault("turns 1 99999;", 1, 8);
        fine("turns 9999;");
        fine("turns not 1 and not 2 or not 3 = 4;");
    }

    private static void nesting() {
        fine("turns (((((1)))));");
        fine("turns 1+(((((1)))))*(2);");
        fault("turns ((((((1))))));", 2, 12);
        fault("turns ((((((", 1, 12);
        fault("turns ((((((;", 1, 12);
        fault("turns (((((()", 1, 12);
        fault("turns ((((((+", 1, 12);
        fault("turns ((((((#", 1, 12);
        fault("turns (((((((", 2, 12);
        fault("turns ((((((xyz", 2, 12);
        fault("turns ((((((not", 2, 12);
        fault("turns ((((((12345", 2, 12);
        fine("turns not not not not not not 1;");
        fault("turns not not not not not not not 1;", 2, 30);
        fault("turns not not not not not not or 1;", 3, 30);
        fine("turns not not not not not not (not 1);");
        fine("turns not not not not not not 1 and not 1;");
    }

    private static void value(String name, boolean turns, boolean court) {
        fault("turns " + name + ";", turns ? 0 : 3, turns ? -1 : 6);
        fault("court " + name + ";", court ? 0 : 3, court ? -1 : 6);
    }

    private static void holds(String expr, boolean want) {
        SaucerFair x = Due.of("one 1 1 3;court " + expr + ";");
        DUE.is(expr, x.accused(0), want ? 0 : -1);
    }

    private static void values() {
        value("degree", true, false);
        value("far", true, false);
        value("reach", true, false);
        value("rust", true, false);
        value("skill", true, true);
        value("hour", true, true);
        value("points", false, true);
        value("flat", false, true);
        value("said", false, true);
        holds("7-2-1=4", true);
        holds("7-2*3=1", true);
        holds("100/7/2=7", true);
        holds("8/2*4=16", true);
        holds("7/0=0", true);
        holds("(0-7)/2=0-3", true);
        holds("7/(0-2)=0-3", true);
        holds("1<1", false);
        holds("0-1<0", true);
        holds("0-1", false);
        holds("0", false);
        holds("not 0=1", true);
        holds("not 5", false);
        holds("not not 5=1", false);
        holds("(not not 5)=1", true);
        holds("(not not 5)=5", false);
        holds("(2 or 0)=1", true);
        holds("(0 or 0)=0", true);
        holds("(2 and 3)=1", true);
        holds("(2 and 0)=0", true);
        holds("(0-2 or 0)=1", true);
        holds("1 or 1 and 0", true);
        holds("(1 or 1) and 0", false);
        holds("not 1 or 1", true);
        holds("not (1 or 1)", false);
        holds("not 0 and 0", false);
        holds("skill=3", true);
        holds("9999*9999*9999<0", true);
        holds("2048*1024*1024/(0-1)=2048*1024*1024", true);
        holds("2048*1024*1024-1<0", false);
        holds("((((1+2)*3-4)/2)=2)", true);
        // as much waits at once as ever can: five left sides in each of six EXPRS
        String deepest = "0 or 1 and 1 < 1 + 1 * 1";
        for (int i = 0; i < 5; i++) {
            deepest = "0 or 1 and 1 < 1 + 1 * (" + deepest + ")";
        }
        holds(deepest, true);
    }

    private static void whatStays() {
        SaucerFair x = Due.of("one 1 1 3;needle 2 2 5 0;says 1 0 1;");
        x.tell(2, 0, 2);
        x.see(0, 1, 3);
        x.image();
        DUE.is("a faulty text", Due.read(x, "one 1 1 1;one"), 1);
        DUE.is("people stay", x.count(0), 1);
        DUE.is("skill stays", x.one(0, 2), 3);
        DUE.is("sayings stay", x.count(2), 2);
        DUE.is("acts stay", x.count(4), 1);
        DUE.is("seen stays", x.count(5), 1);
        DUE.is("what is shown stays", x.shows(0, 1), 7);
        DUE.isTrue("the image stays", x.restore());
        DUE.is("undo", x.undo(), 0);
        DUE.is("sayings", x.count(2), 1);
    }

    private static void whatGoes() {
        SaucerFair x = Due.of("one 1 1 3;needle 2 2 5 0;turns 1;court 1;says 1 0 1;");
        x.tell(2, 0, 2);
        x.tell(100, 0, 2);
        x.see(0, 1, 3);
        x.see(0, 1, 10);
        x.image();
        Due.read(x, "fault");
        DUE.is("a new text", Due.read(x, "one 0 0 1;one 9 0 2;needle 5 0 1 0;says 0 0 9;"), 0);
        DUE.is("acts are gone", x.count(4), 0);
        DUE.is("seen is gone", x.count(5), 0);
        DUE.isFalse("the image is gone", x.restore());
        DUE.is("undo", x.undo(), -1);
        DUE.is("turns is gone", x.needle(0, 4), 0);
        DUE.is("court is gone", x.accused(0), -1);
        DUE.is("people", x.count(0), 2);
        DUE.is("faulty texts stay counted", x.count(7), 1);
        DUE.is("refused acts stay counted", x.count(8), 1);
        DUE.is("refused sights stay counted", x.count(9), 1);
    }
}
