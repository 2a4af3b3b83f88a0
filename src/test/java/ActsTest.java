/** Promises 14 to 18, 43 and 44: ACTS, how they are UNDONE, and the image. */
final class ActsTest {
    private static final Due DUE = new Due("ActsTest");
    private static final String FAIR = "one 0 5 1;one 10 5 2;needle 5 5 9 2;needle 7 9 9 0;says 3 0 5;";

    public static void main(String[] args) {
        telling();
        takingBack();
        rusting();
        carrying();
        undoing();
        forty();
        fortyOfAllKinds();
        images();
        imageOfActs();
        DUE.end();
    }

    private static void telling() {
        SaucerFair x = Due.of(FAIR);
        DUE.is("tell", x.tell(4, 1, 9), 1);
        DUE.is("its hour", x.saying(1, 0), 4);
        DUE.is("who", x.saying(1, 1), 1);
        DUE.is("degree", x.saying(1, 2), 9);
        DUE.is("shown", x.shows(0, 4), 2);
        DUE.is("an earlier hour", x.tell(0, 0, 0), 2);
        DUE.is("acts", x.count(4), 2);
        DUE.is("hour 100", x.tell(100, 0, 1), -1);
        DUE.is("hour -1", x.tell(-1, 0, 1), -1);
        DUE.is("degree 10", x.tell(0, 0, 10), -1);
        DUE.is("degree -1", x.tell(0, 0, -1), -1);
        DUE.noSuch("person 2", () -> x.tell(0, 2, 1));
        DUE.noSuch("person -1", () -> x.tell(0, -1, 1));
        DUE.noSuch("person 2, ahead of the hour", () -> x.tell(100, 2, 1));
        DUE.is("refused", x.count(8), 4);
        DUE.is("no act", x.count(4), 2);
        for (int i = 3; i < 16; i++) {
            DUE.is("tell " + i, x.tell(99, 1, 1), i);
        }
        DUE.is("a 17th", x.tell(99, 1, 1), -1);
        DUE.is("refused then", x.count(8), 5);
        DUE.noSuch("person 2 of 16 sayings", () -> x.tell(0, 2, 1));
        DUE.is("sayings", x.count(2), 16);
        DUE.is("bits", x.one(1, 3), 0xfffa);
    }

    private static void takingBack() {
        SaucerFair x = Due.of(FAIR + "says 4 1 9;");
        DUE.is("back", x.back(), 1);
        DUE.is("shown without it", x.shows(0, 4), 6);
        DUE.is("back", x.back(), 0);
        DUE.is("nothing is shown", x.shows(0, 99), -1);
        DUE.is("none", x.back(), -1);
        DUE.is("refused", x.count(8), 1);
        DUE.is("acts", x.count(4), 2);
        DUE.is("undo", x.undo(), 1);
        DUE.is("its degree is back", x.saying(0, 2), 5);
        DUE.is("undo", x.undo(), 0);
        DUE.is("who is back", x.saying(1, 1), 1);
        DUE.is("its hour too", x.saying(1, 0), 4);
        DUE.is("shown with it", x.shows(0, 4), 2);
        x.back();
        DUE.is("tell another one in its place", x.tell(60, 1, 9), 1);
        DUE.is("the hour that is taken back shows it no more", x.shows(0, 4), 6);
        DUE.is("the other hour does", x.shows(0, 60), 2);
    }

    private static void rusting() {
        SaucerFair x = Due.of(FAIR);
        DUE.is("as it was", x.rust(0, 5), 2);
        DUE.is("rust", x.needle(0, 3), 5);
        DUE.is("it hears none", x.needle(0, 4), 0);
        DUE.is("the same again", x.rust(0, 5), 5);
        DUE.is("to 0", x.rust(0, 0), 5);
        DUE.is("to 9", x.rust(0, 9), 0);
        DUE.is("10", x.rust(0, 10), -1);
        DUE.is("-1", x.rust(0, -1), -1);
        DUE.noSuch("needle 2", () -> x.rust(2, 0));
        DUE.noSuch("needle -1, ahead of the rust", () -> x.rust(-1, 10));
        DUE.is("refused", x.count(8), 2);
        DUE.is("acts, the like one too", x.count(4), 4);
        DUE.is("undo", x.undo(), 3);
        DUE.is("rust undone", x.needle(0, 3), 0);
    }

    private static void carrying() {
        SaucerFair x = Due.of(FAIR);
        DUE.is("as it was", x.carry(1, 0, 5), 907);
        DUE.is("X", x.needle(1, 0), 0);
        DUE.is("Y", x.needle(1, 1), 5);
        DUE.is("as if it had always been there", x.shows(1, 3), 8);
        DUE.is("where another one is", x.carry(1, 5, 5), 500);
        DUE.is("both show alike", x.shows(1, 3), 6);
        DUE.is("to the corner", x.carry(1, 40, 40), 505);
        DUE.is("to the other corner", x.carry(1, 0, 0), 4040);
        DUE.is("41, 0", x.carry(1, 41, 0), -1);
        DUE.is("0, 41", x.carry(1, 0, 41), -1);
        DUE.is("-1, 0", x.carry(1, -1, 0), -1);
        DUE.is("0, -1", x.carry(1, 0, -1), -1);
        DUE.is("refused", x.count(8), 4);
        DUE.noSuch("needle 2", () -> x.carry(2, 0, 0));
        DUE.noSuch("needle -1, ahead of the place", () -> x.carry(-1, 41, 0));
        DUE.is("acts", x.count(4), 4);
        DUE.is("undo", x.undo(), 3);
        DUE.is("Y undone", x.needle(1, 1), 40);
    }

    private static void undoing() {
        SaucerFair x = Due.of(FAIR);
        DUE.is("none", x.undo(), -1);
        DUE.is("that is not refused", x.count(8), 0);
        x.tell(4, 1, 9);
        x.rust(0, 9);
        x.carry(0, 1, 1);
        x.back();
        x.back();
        x.tell(50, 1, 2);
        DUE.is("undo tell", x.undo(), 5);
        DUE.is("sayings", x.count(2), 0);
        DUE.is("undo back", x.undo(), 4);
        DUE.is("undo back", x.undo(), 3);
        DUE.is("sayings", x.count(2), 2);
        DUE.is("the second's hour", x.saying(1, 0), 4);
        DUE.is("undo carry", x.undo(), 2);
        DUE.is("place", x.needle(0, 0) * 100 + x.needle(0, 1), 505);
        DUE.is("undo rust", x.undo(), 1);
        DUE.is("rust", x.needle(0, 3), 2);
        DUE.is("undo tell", x.undo(), 0);
        DUE.is("sayings", x.count(2), 1);
        DUE.is("none is left", x.undo(), -1);
        DUE.is("shown as ever", x.shows(0, 3), 6);
    }

    private static void forty() {
        SaucerFair x = Due.of(FAIR);
        x.rust(1, 7);
        for (int i = 0; i < 40; i++) {
            DUE.is("rust " + i, x.rust(0, i % 10), i == 0 ? 2 : (i - 1) % 10);
        }
        DUE.is("kept", x.count(4), 40);
        for (int i = 39; i >= 0; i--) {
            DUE.is("undo", x.undo(), i);
            DUE.is("rust undone", x.needle(0, 3), i == 0 ? 2 : (i - 1) % 10);
        }
        DUE.is("the first is not kept", x.undo(), -1);
        DUE.is("so it stands", x.needle(1, 3), 7);
    }

    private static void fortyOfAllKinds() {
        SaucerFair x = Due.of(FAIR);
        for (int i = 0; i < 15; i++) {
            x.carry(1, i, 2 * i);
            x.rust(0, i % 10);
            DUE.is("tell", x.tell(i, i % 2, i % 10), i + 1);
        }
        DUE.is("kept", x.count(4), 40);
        for (int i = 14; i >= 2; i--) {
            x.undo();
            DUE.is("told is undone", x.count(2), i + 1);
            x.undo();
            DUE.is("rust is undone", x.needle(0, 3), (i - 1) % 10);
            x.undo();
            DUE.is("carried is undone", x.needle(1, 0) * 100 + x.needle(1, 1), 102 * (i - 1));
        }
        DUE.is("the last that is kept", x.undo(), 0);
        DUE.is("one told is left", x.count(2), 2);
        DUE.is("none is left", x.undo(), -1);
    }

    private static void imageOfActs() {
        SaucerFair x = Due.of(FAIR + "says 7 1 8;");
        x.carry(1, 3, 4);
        x.back();
        x.rust(0, 8);
        x.tell(9, 0, 7);
        x.image();
        for (int i = 0; i < 4; i++) {
            x.undo();
        }
        for (int i = 0; i < 5; i++) {
            x.back();
            x.tell(i, 0, 1);
        }
        x.restore();
        DUE.is("the hour", x.saying(1, 0), 9);
        DUE.is("who", x.saying(1, 1), 0);
        DUE.is("degree", x.saying(1, 2), 7);
        DUE.is("undo tell", x.undo(), 3);
        DUE.is("sayings", x.count(2), 1);
        DUE.is("undo rust", x.undo(), 2);
        DUE.is("rust", x.needle(0, 3), 2);
        DUE.is("undo back", x.undo(), 1);
        DUE.is("its hour", x.saying(1, 0), 7);
        DUE.is("its one", x.saying(1, 1), 1);
        DUE.is("its degree", x.saying(1, 2), 8);
        DUE.is("undo carry", x.undo(), 0);
        DUE.is("place", x.needle(1, 0) * 100 + x.needle(1, 1), 709);
    }

    private static void images() {
        SaucerFair x = Due.of(FAIR);
        DUE.isFalse("none", x.restore());
        x.tell(4, 1, 9);
        x.see(0, 3, 6);
        x.image();
        x.back();
        x.back();
        x.rust(0, 9);
        x.carry(1, 0, 0);
        x.forget();
        x.tell(200, 0, 0);
        x.see(0, 0, 77);
        DUE.isTrue("restore", x.restore());
        DUE.is("sayings", x.count(2), 2);
        DUE.is("the second's degree", x.saying(1, 2), 9);
        DUE.is("rust", x.needle(0, 3), 2);
        DUE.is("place", x.needle(1, 0) * 100 + x.needle(1, 1), 709);
        DUE.is("acts", x.count(4), 1);
        DUE.is("seen", x.count(5), 1);
        DUE.is("shown", x.shows(0, 4), 2);
        DUE.is("refused acts stay counted", x.count(8), 1);
        DUE.is("refused sights stay counted", x.count(9), 1);
        DUE.is("planted", x.planted(), 0);
        DUE.is("undo", x.undo(), 0);
        DUE.is("told is undone", x.count(2), 1);
        DUE.isTrue("restore once more", x.restore());
        DUE.is("sayings once more", x.count(2), 2);
        x.back();
        x.image();
        x.undo();
        DUE.isTrue("restore another one", x.restore());
        DUE.is("sayings of another one", x.count(2), 1);
        DUE.is("acts of another one", x.count(4), 2);
        DUE.is("fair", Due.read(x, FAIR), 0);
        DUE.isFalse("gone with the fair", x.restore());
        SaucerFair empty = new SaucerFair();
        empty.image();
        DUE.isTrue("an image of nothing", empty.restore());
    }
}
