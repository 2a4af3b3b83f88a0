/** The edges of promises 2 to 4 and of the language of TEXTS: each bound at its last good place and one beyond it. */
final class TextEdgesTest {
    private static final Due DUE = new Due("TextEdgesTest");
    private static final String[] KEYWORDS = {"one", "needle", "says", "turns", "court"};
    private static final String[] TURNS = {"degree", "skill", "far", "reach", "rust", "hour"};
    private static final String[] COURT = {"points", "flat", "skill", "said", "hour"};

    public static void main(String[] args) {
        feedFillsToSevenHundred();
        feedHighestByteFirst();
        textOfSevenHundredBytes();
        fairTakesNoMoreThanTheTape();
        faultOfTheLatestFair();
        everyByteAtALine();
        everyByteAtAPart();
        everyByteBehindAPart();
        everyByteInANumber();
        onlyBlanksCountForNothing();
        wordsAreTheLongestRow();
        numbersHaveUpToFourDigits();
        numbersOfALine();
        tooManyOfAKind();
        linesEndTooSoon();
        linesWithAWrongToken();
        partsOfAnExpr();
        exprsWithinOthers();
        notsSideBySide();
        wordsAtAPart();
        personsToldAhead();
        likePlaces();
        secondRules();
        firstAlongTheText();
        leastOfOneToken();
        eachTextAnew();
        DUE.end();
    }

    private static void fault(String text, int kind, int place) {
        SaucerFair x = new SaucerFair();
        DUE.is("fair of '" + text + "'", Due.read(x, text), kind);
        DUE.is("fault of '" + text + "'", x.fault(), place);
        DUE.is("STATUS 0 behind '" + text + "'", x.count(7), kind == 0 ? 0 : 1);
    }

    private static void fine(String text) {
        fault(text, 0, -1);
    }

    private static String blanks(int n) {
        return " ".repeat(n);
    }

    private static String people(int n) {
        StringBuilder out = new StringBuilder();
        for (int i = 0; i < n; i++) {
            out.append("one ").append(i).append(" 0 0;");
        }
        return out.toString();
    }

    private static String needles(int n) {
        StringBuilder out = new StringBuilder();
        for (int i = 0; i < n; i++) {
            out.append("needle ").append(i).append(" 0 1 0;");
        }
        return out.toString();
    }

    // ---- the tape

    /** "NONE, and none come, if it would have more than 700." */
    private static void feedFillsToSevenHundred() {
        SaucerFair x = new SaucerFair();
        for (int i = 1; i <= 34; i++) {
            DUE.is("feed " + i, x.feed(0, 0, 0, 0, 0), 20 * i);
        }
        DUE.is("680 bytes", x.count(6), 680);
        DUE.is("the 35th feed", x.feed(0x20202020, 0x20202020, 0x20202020, 0x20202020, 0x20202020), 700);
        DUE.is("the 36th", x.feed(0x20202020, 0x20202020, 0x20202020, 0x20202020, 0x20202020), -1);
        DUE.is("none came", x.count(6), 700);
        DUE.is("the 37th", x.feed(0, 0, 0, 0, 0), -1);
        DUE.is("the first byte is as it was", x.fair(700), 1);
        DUE.is("a refused feed is not in STATUS", x.count(7) * 100 + x.count(8) * 10 + x.count(9), 100);
        DUE.is("an empty tape takes bytes again", x.feed(1, 2, 3, 4, 5), 20);
    }

    /** "of each number the highest first": all twenty bytes, also those of numbers below 0. */
    private static void feedHighestByteFirst() {
        SaucerFair x = new SaucerFair();
        String text = "one 1 2 3;one 4 5 6;";
        DUE.is("feed", Due.feed(x, text), 20);
        DUE.is("fair", x.fair(20), 0);
        DUE.is("the last byte counts", x.count(0), 2);
        for (int i = 0; i < 20; i++) {
            int[] row = {0x20202020, 0x20202020, 0x20202020, 0x20202020, 0x20202020};
            row[i / 4] &= ~(255 << 24 - i % 4 * 8);
            row[i / 4] |= 0xe9 << 24 - i % 4 * 8;
            DUE.is("feed", x.feed(row[0], row[1], row[2], row[3], row[4]), 20);
            DUE.is("fair, byte " + i + " being 233", x.fair(20), 1);
            DUE.is("its place", x.fault(), i);
        }
    }

    /** "A TEXT of at most 700 bytes": one that needs its 700th byte. */
    private static void textOfSevenHundredBytes() {
        String line = "one 1 2 3;";
        fine(blanks(690) + line);
        fine(blanks(689) + line);
        fault(blanks(691) + "one 1 2 3", 1, 700);
        fault(blanks(699) + "#", 1, 699);
        fault(blanks(699) + ";", 1, 699);
        SaucerFair x = new SaucerFair();
        DUE.is("700 bytes", Due.read(x, blanks(690) + line), 0);
        DUE.is("its people", x.count(0), 1);
        Due.feed(x, blanks(690) + line);
        DUE.is("its first 699 bytes", x.fair(699), 1);
        DUE.is("where it ends", x.fault(), 699);
        StringBuilder sum = new StringBuilder("court 1");
        while (sum.length() < 698) {
            sum.append("+1");
        }
        String whole = sum + ";";
        DUE.is("the longest sum", whole.length(), 700);
        SaucerFair y = new SaucerFair();
        DUE.is("700 bytes of one EXPR", Due.read(y, whole), 0);
    }

    /** "IllegalArgumentException: the tape has not so many, n below 0 (nothing changes)." */
    private static void fairTakesNoMoreThanTheTape() {
        SaucerFair x = new SaucerFair();
        for (int n : new int[] {1, -1, 700, 701, Integer.MIN_VALUE, Integer.MAX_VALUE}) {
            DUE.illegal("fair " + n + " of nothing", () -> x.fair(n));
        }
        Due.feed(x, "one 1 2 3;one 4 5 6;");
        for (int n : new int[] {21, -1, 700, Integer.MIN_VALUE, Integer.MAX_VALUE}) {
            DUE.illegal("fair " + n + " of 20", () -> x.fair(n));
            DUE.is("the tape stays", x.count(6), 20);
            DUE.is("no text was faulty", x.count(7), 0);
        }
        DUE.is("fair 20 of 20", x.fair(20), 0);
        DUE.is("both", x.count(0), 2);
        DUE.is("the tape is empty", x.count(6), 0);
        DUE.illegal("fair 1 of an empty tape", () -> x.fair(1));
        DUE.is("both stay", x.count(0), 2);
        Due.feed(x, "one 1 2 3;one 4 5 6;");
        DUE.is("fair 19 of 20", x.fair(19), 1);
        DUE.is("it is empty then, too", x.count(6), 0);
        DUE.is("both stay behind a FAULT", x.count(0), 2);
        Due.feed(x, "one 1 2 3;one 4 5 6;");
        DUE.is("fair 0 of 20", x.fair(0), 0);
        DUE.is("nobody", x.count(0), 0);
        DUE.is("it is empty then, too", x.count(6), 0);
        DUE.is("fair 0 of 0", x.fair(0), 0);
        Due.feed(x, blanks(700));
        DUE.illegal("fair 701 of 700", () -> x.fair(701));
        DUE.is("fair 700 of 700", x.fair(700), 0);
    }

    /** "The place of the latest fair()'s FAULT; NONE without." */
    private static void faultOfTheLatestFair() {
        SaucerFair x = new SaucerFair();
        DUE.is("no fair() yet", x.fault(), -1);
        Due.read(x, "   x");
        DUE.is("a FAULT at 3", x.fault(), 3);
        DUE.is("asked again", x.fault(), 3);
        DUE.illegal("a fair() that throws", () -> x.fair(1));
        DUE.is("changes nothing", x.fault(), 3);
        Due.read(x, "x");
        DUE.is("a FAULT at 0", x.fault(), 0);
        Due.read(x, " ");
        DUE.is("none", x.fault(), -1);
        DUE.is("faulty texts", x.count(7), 2);
    }

    // ---- TOKENS

    private static boolean isBlank(int sign) {
        return sign == 32 || sign == 10;
    }

    private static boolean isLetter(int sign) {
        return sign >= 97 && sign <= 122;
    }

    private static boolean isDigit(int sign) {
        return sign >= 48 && sign <= 57;
    }

    private static void everyByteAtALine() {
        for (int sign = 0; sign < 256; sign++) {
            fault("" + (char) sign, isBlank(sign) ? 0 : 1, isBlank(sign) ? -1 : 0);
        }
    }

    private static void everyByteAtAPart() {
        for (int sign = 0; sign < 256; sign++) {
            String text = "court " + (char) sign + ";";
            if (isDigit(sign)) {
                fine(text);
            } else if (isLetter(sign)) {
                fault(text, 3, 6);
            } else {
                fault(text, 1, isBlank(sign) || sign == '(' ? 7 : 6);
            }
        }
    }

    private static void everyByteBehindAPart() {
        for (int sign = 0; sign < 256; sign++) {
            String text = "court 1" + (char) sign + "1;";
            if (isDigit(sign) || "+-*/<=".indexOf(sign) >= 0) {
                fine(text);
            } else {
                fault(text, 1, isBlank(sign) || sign == ';' ? 8 : 7);
            }
        }
    }

    private static void everyByteInANumber() {
        for (int sign = 0; sign < 256; sign++) {
            String text = "one 0" + (char) sign + "0 0;";
            if (isBlank(sign)) {
                fine(text);
            } else if (isDigit(sign)) {
                // one NUMBER: 00, 10 .. 40 are an X, 50 .. 90 are not; then the third NUMBER is wanting
                fault("one " + (char) sign + "0 0;", sign <= '4' ? 1 : 2, sign <= '4' ? 8 : 4);
            } else {
                fault(text, 1, 5);
            }
        }
    }

    /** "blanks (32, 10) between them count for nothing": any number of them, none where two TOKENS differ in kind. */
    private static void onlyBlanksCountForNothing() {
        String[] texts = {"one1 2 3;needle4 5 6 7;says8 0 9;turns(far+1)*2<reach;court not points=0or flat;",
            " one 1 2 3 ; needle 4 5 6 7 ; says 8 0 9 ; turns ( far + 1 ) * 2 < reach ; court not points = 0 or flat ; ",
            "\n\none\n1\n2\n3\n;\nneedle 4\n5 6\n 7;\n\n\nsays 8 \n0 9;turns (far\n+1)*\n2 <reach; court  not\n\npoints=0 or\nflat\n;"};
        for (String text : texts) {
            SaucerFair x = new SaucerFair();
            DUE.is("fair of '" + text + "'", Due.read(x, text), 0);
            DUE.is("X, Y, SKILL", x.one(0, 0) * 100 + x.one(0, 1) * 10 + x.one(0, 2), 123);
            DUE.is("X, Y", x.needle(0, 0) * 10 + x.needle(0, 1), 45);
            DUE.is("REACH, RUST", x.needle(0, 2) * 10 + x.needle(0, 3), 67);
            DUE.is("HOUR, DEGREE", x.saying(0, 0) * 10 + x.saying(0, 2), 89);
        }
        fault("court notpoints;", 3, 6);
        fault("court 1or 2;", 0, -1);
        fault("court 1 or2;", 0, -1);
        fault("court skillor 2;", 3, 6);
        fault("on e 1 2 3;", 1, 0);
        fault("one 1 2 3 4;", 1, 10);
    }

    /** "words (a .. z, the longest row)": a keyword or VALUE with a sign less or more is another word. */
    private static void wordsAreTheLongestRow() {
        for (String word : KEYWORDS) {
            fault(word.substring(0, word.length() - 1), 1, 0);
            fault(word.substring(1), 1, 0);
            fault(word + "s", 1, 0);
            fault("a" + word, 1, 0);
            fault(word, 1, word.length());
        }
        for (String word : TURNS) {
            fine("turns " + word + ";");
            fault("turns " + word.substring(0, word.length() - 1) + ";", 3, 6);
            fault("turns " + word + "a;", 3, 6);
            fault("turns z" + word + ";", 3, 6);
        }
        for (String word : COURT) {
            fine("court " + word + ";");
            fault("court " + word.substring(0, word.length() - 1) + ";", 3, 6);
            fault("court " + word + "a;", 3, 6);
            fault("court z" + word + ";", 3, 6);
        }
        for (String word : new String[] {"or", "and"}) {
            fine("court 1 " + word + " 1;");
            fault("court 1 " + word.substring(0, word.length() - 1) + " 1;", 1, 8);
            fault("court 1 " + word + "s 1;", 1, 8);
        }
        fine("court not 1;");
        fault("court no 1;", 3, 6);
        fault("court nots 1;", 3, 6);
    }

    // ---- NUMBERS

    /** "NUMBERS (1 to 4 digits)", "2 .. a NUMBER of 5 digits or more": in each place where one may stand. */
    private static void numbersHaveUpToFourDigits() {
        String fair = "one 9 9 0;";
        String[] starts = {"one ", "one 1 ", "one 1 1 ", "needle ", "needle 1 ", "needle 1 1 ", "needle 1 1 1 ",
            fair + "says ", fair + "says 1 ", fair + "says 1 0 ", "turns ", "court ", "court 1 + ", "court not (1 < "};
        String[] ends = {" 1 1;", " 1;", ";", " 1 1 1;", " 1 1;", " 1;", ";", " 0 1;", " 1;", ";", ";", ";", ";", ");"};
        for (int i = 0; i < starts.length; i++) {
            // a PERSON has to be told ahead; all other places take 1
            String last = i == 8 ? "0" : "1";
            for (String zeros : new String[] {"", "0", "00", "000"}) {
                fine(starts[i] + zeros + last + ends[i]);
            }
            fault(starts[i] + "0000" + last + ends[i], 2, starts[i].length());
            fault(starts[i] + "00000" + last + ends[i], 2, starts[i].length());
            fault(starts[i] + "00000000000000000000" + last + ends[i], 2, starts[i].length());
            fault(starts[i] + "4294967297" + ends[i], 2, starts[i].length());
        }
        fine("court 9999;");
        fault("court 10000;", 2, 6);
    }

    private static void number(String start, int least, int most, String end) {
        if (least > 0) {
            fault(start + (least - 1) + end, 2, start.length());
        }
        fine(start + least + end);
        fine(start + (least + 1) + end);
        fine(start + (most - 1) + end);
        fine(start + most + end);
        fault(start + (most + 1) + end, 2, start.length());
        fault(start + "9999" + end, 2, start.length());
        // there are no NUMBERS below 0
        fault(start + "-1" + end, 1, start.length());
        fault(start + "+1" + end, 1, start.length());
    }

    /** "X, Y (0 to 40), SKILL (0 to 9)", "REACH (1 to 60), RUST (0 to 9)", "HOUR (0 to 99)", "DEGREE (.. 9)". */
    private static void numbersOfALine() {
        number("one ", 0, 40, " 3 3;");
        number("one 3 ", 0, 40, " 3;");
        number("one 3 3 ", 0, 9, ";");
        number("needle ", 0, 40, " 3 3 3;");
        number("needle 3 ", 0, 40, " 3 3;");
        number("needle 3 3 ", 1, 60, " 3;");
        number("needle 3 3 3 ", 0, 9, ";");
        number("one 3 3 3;says ", 0, 99, " 0 3;");
        number("one 3 3 3;says 3 0 ", 0, 9, ";");
        SaucerFair x = Due.of("one 40 0 9;one 0 40 0;needle 40 0 60 9;needle 0 40 1 0;says 99 1 9;says 0 0 0;");
        DUE.is("X, Y", x.one(0, 0) * 100 + x.one(0, 1), 4000);
        DUE.is("X, Y of the second", x.one(1, 0) * 100 + x.one(1, 1), 40);
        DUE.is("SKILL", x.one(0, 2) * 10 + x.one(1, 2), 90);
        DUE.is("X, Y of a NEEDLE", x.needle(0, 0) * 100 + x.needle(0, 1), 4000);
        DUE.is("X, Y of the second NEEDLE", x.needle(1, 0) * 100 + x.needle(1, 1), 40);
        DUE.is("REACH", x.needle(0, 2) * 100 + x.needle(1, 2), 6001);
        DUE.is("RUST", x.needle(0, 3) * 10 + x.needle(1, 3), 90);
        DUE.is("HOUR", x.saying(0, 0) * 100 + x.saying(1, 0), 9900);
        DUE.is("DEGREE", x.saying(0, 2) * 10 + x.saying(1, 2), 90);
    }

    // ---- LINES

    /** "2 .. the first TOKEN of the 11th of PEOPLE, the 7th NEEDLE, the 17th SAYING": whatever stands behind it. */
    private static void tooManyOfAKind() {
        for (String end : new String[] {"", " 30 30 3;", " 41", " x", ";", "#"}) {
            fault(people(10) + "one" + end, 2, 100);
            fault(people(10) + needles(6) + "one" + end, 2, 190);
        }
        for (String end : new String[] {"", " 30 30 3 3;", " 41", " x", ";", "#"}) {
            fault(needles(6) + "needle" + end, 2, 90);
            fault(people(10) + needles(6) + "needle" + end, 2, 190);
        }
        for (String end : new String[] {"", " 1 0 3;", " 100", " x", ";", "#"}) {
            fault(people(1) + "says 0 0 1;".repeat(16) + "says" + end, 2, 186);
        }
        for (int n = 8; n <= 10; n++) {
            DUE.is("people", Due.of(people(n)).count(0), n);
        }
        for (int n = 4; n <= 6; n++) {
            DUE.is("needles", Due.of(needles(n)).count(1), n);
        }
        for (int n = 14; n <= 16; n++) {
            DUE.is("sayings", Due.of(people(1) + "says 0 0 1;".repeat(n)).count(2), n);
        }
        SaucerFair full = Due.of(people(10) + needles(6) + "says 99 9 9;".repeat(16));
        DUE.is("all of each", full.count(0) * 10000 + full.count(1) * 100 + full.count(2), 100616);
        // the counts start anew with each text, also behind one with a FAULT
        DUE.is("again", Due.read(full, people(10) + needles(6) + "says 99 9 9;".repeat(16)), 0);
        DUE.is("one too many", Due.read(full, people(11)), 2);
        DUE.is("ten again", Due.read(full, people(10)), 0);
    }

    private static String[] lines() {
        return new String[] {"one 1 2 3 ;", "needle 1 2 3 4 ;", "says 1 0 3 ;", "turns far ;", "court points ;",
            "court 1 + 2 ;", "court 1 < 2 ;", "court 1 or 2 ;", "court 1 and 2 ;", "court not 1 ;", "court ( 1 ) ;",
            "court 1 * ( 2 - 1 / skill ) ;"};
    }

    /** "1 .. (the text's length where it ends too soon)": behind each TOKEN but the last, blanks behind it or not. */
    private static void linesEndTooSoon() {
        String ahead = "one 9 9 9;";
        for (String line : lines()) {
            String[] tokens = line.split(" ");
            String text = ahead;
            for (int i = 0; i + 1 < tokens.length; i++) {
                text = text + tokens[i];
                fault(text, 1, text.length());
                fault(text + " ", 1, text.length() + 1);
                fault(text + " \n  ", 1, text.length() + 4);
                text = text + " ";
            }
            fine(text + ";");
            fine(text + ";  ");
        }
    }

    /** "1 a TOKEN that can't stand there, or is none": in the place of each TOKEN of a LINE. */
    private static void linesWithAWrongToken() {
        String ahead = "one 9 9 9;";
        for (String line : lines()) {
            String[] tokens = line.split(" ");
            String text = ahead;
            for (String token : tokens) {
                fault(text + "?" + token, 1, text.length());
                fault(text + "A" + token, 1, text.length());
                text = text + token + " ";
            }
            fault(text + ";", 1, text.length());
            fault(text + "5", 1, text.length());
        }
        fault("one one 1 2 3;", 1, 4);
        fault("one 1 2 3 one 2 2 3;", 1, 10);
        fault("one 1 ; 3;", 1, 6);
        fault("needle 1 2 3;", 1, 12);
        fault("needle 1 2 3 4 5;", 1, 15);
        fault("needle 1 2 (3) 4;", 1, 11);
        fault("one 1 1+1 1;", 1, 7);
        fault("one 9 9 9;says far 0 1;", 1, 15);
        fault("turns turns 1;", 3, 6);
    }

    // ---- EXPR

    private static void partsOfAnExpr() {
        fine("court 1<2;");
        fine("court 1=2;");
        fault("court 1<2<3;", 1, 9);
        fault("court 1<2=3;", 1, 9);
        fault("court 1=2<3;", 1, 9);
        fault("court 1=2=3;", 1, 9);
        fine("court (1<2)<3;");
        fine("court 1<(2<3);");
        fine("court 1<2 and 2<3 or 3<4;");
        fault("court 1 < not 2;", 3, 10);
        fine("court 1 < (not 2);");
        fault("court 1+-2;", 1, 8);
        fault("court 1**2;", 1, 8);
        fault("court *1;", 1, 6);
        fault("court 1*;", 1, 8);
        fault("court (1+);", 1, 9);
        fault("court (1;", 1, 8);
        fault("court (1));", 1, 9);
        fault("court ();", 1, 7);
        fault("court 1 or;", 1, 10);
        fault("court 1 and;", 1, 11);
        fault("court not;", 1, 9);
        fault("court 1 not 2;", 1, 8);
        fault("court points points;", 1, 13);
        fault("court points 1;", 1, 13);
        fault("court (1)(2);", 1, 9);
        fault("court (1)2;", 1, 9);
    }

    private static String opened(int n) {
        return "turns " + "(".repeat(n);
    }

    /** "2 .. of an EXPR within 6 others (a NUMBER, any word, a parenthesis)". */
    private static void exprsWithinOthers() {
        for (int n = 0; n <= 5; n++) {
            fine(opened(n) + "1" + ")".repeat(n) + ";");
            fine(opened(n) + "far" + ")".repeat(n) + ";");
            fine(opened(n) + "not 1" + ")".repeat(n) + ";");
            fault(opened(n) + "xyz", 3, 6 + n);
            fault(opened(n) + "or", 3, 6 + n);
        }
        for (String token : new String[] {"1", "9999", "12345", "far", "not", "or", "and", "xyz", "points", "one", "turns", "("}) {
            fault(opened(6) + token, 2, 12);
            fault(opened(6) + token + "))))));", 2, 12);
            fault(opened(6) + "  " + token, 2, 14);
        }
        for (String token : new String[] {"", ")", "+", "-", "*", "/", "<", "=", ";", "#", "A", "\u0000", "\u00ff"}) {
            fault(opened(6) + token, 1, 12);
            fault(opened(5) + token, 1, 11);
        }
        fine("turns (((((1)))))+(((((1)))))*(1)-((2));");
        fault("turns (((((1)))))+((((((1))))));", 2, 24);
        fault("turns 1 + (not (1 < (far and (1 or (2 = (3)))));", 2, 41);
        fine("turns 1 + (not (1 < (far and (1 or (2 = 3)))));");
        // each rule counts anew
        fine("turns (((((1)))));court (((((1)))));");
        fault("turns (((((1)))));court ((((((1))))));", 2, 30);
    }

    /** "2 .. the seventh 'not' side by side". */
    private static void notsSideBySide() {
        String six = "not not not not not not ";
        fine("court " + six.substring(4) + "1;");
        fine("court " + six + "1;");
        fault("court " + six + "not 1;", 2, 30);
        fault("court " + six + "not", 2, 30);
        fault("court " + six + "not not 1;", 2, 30);
        fine("court " + six + "(" + six + "1);");
        fault("court " + six + "(" + six + "not 1);", 2, 55);
        fine("court " + six + "1 and " + six + "1 or " + six + "1;");
        fault("court 1 or " + six + "not 1;", 2, 35);
        fault("court 1 and " + six + "not 1;", 2, 36);
        fine("court not(not(not(not(not(not 1)))));");
        fault("court not(not(not(not(not(not(not 1))))));", 2, 30);
        fine("turns " + six + "1;court " + six + "1;");
        // an even or odd number of them
        DUE.is("six", Due.of("one 1 1 1;court " + six + "5;").accused(0), 0);
        DUE.is("five", Due.of("one 1 1 1;court " + six.substring(4) + "5;").accused(0), -1);
        DUE.is("five of 0", Due.of("one 1 1 1;court " + six.substring(4) + "0;").accused(0), 0);
    }

    /** "3 any word where a PART must stand that is no VALUE of this EXPR". */
    private static void wordsAtAPart() {
        String[] starts = {"", "1 or ", "1 and ", "not ", "1 < ", "1 = ", "1 + ", "1 - ", "1 * ", "1 / ", "(", "not not ("};
        String[] ever = {"x", "or", "and", "one", "needle", "says", "turns", "court", "point", "degrees", "none", "no"};
        for (String start : starts) {
            for (String word : ever) {
                fault("turns " + start + word, 3, 6 + start.length());
                fault("court " + start + word, 3, 6 + start.length());
            }
            for (String word : new String[] {"degree", "far", "reach", "rust"}) {
                fault("turns " + start + word, 1, 6 + start.length() + word.length());
                fault("court " + start + word, 3, 6 + start.length());
            }
            for (String word : new String[] {"points", "flat", "said"}) {
                fault("turns " + start + word, 3, 6 + start.length());
                fault("court " + start + word, 1, 6 + start.length() + word.length());
            }
            for (String word : new String[] {"skill", "hour"}) {
                fault("turns " + start + word, 1, 6 + start.length() + word.length());
                fault("court " + start + word, 1, 6 + start.length() + word.length());
            }
        }
        for (String start : new String[] {"1 < ", "1 = ", "1 + ", "1 - ", "1 * ", "1 / "}) {
            fault("turns " + start + "not 1;", 3, 10);
        }
        for (String start : new String[] {"1 or ", "1 and ", "not ", "("}) {
            fault("turns " + start + "not 1", 1, 6 + start.length() + 5);
        }
    }

    // ---- what was told ahead

    /** "3 .. a PERSON that isn't told ahead". */
    private static void personsToldAhead() {
        for (int n = 0; n <= 10; n++) {
            String text = people(n) + "says 5 ";
            if (n > 0) {
                fine(text + (n - 1) + " 1;");
                fine(text + "0 1;");
            }
            fault(text + n + " 1;", 3, text.length());
            fault(text + (n + 1) + " 1;", 3, text.length());
            fault(text + "9999 1;", 3, text.length());
            fault(text + "10000 1;", 2, text.length());
            fault(text + n, 3, text.length());
        }
        fault("one 1 1 1;says 0 1 1;one 2 2 2;", 3, 17);
        fine("one 1 1 1;one 2 2 2;says 0 1 1;");
        // those of the text ahead are not told in this one
        SaucerFair x = Due.of("one 1 1 1;one 2 2 2;");
        DUE.is("a PERSON of another text", Due.read(x, "one 1 1 1;says 0 1 1;"), 3);
        DUE.is("its place", x.fault(), 17);
    }

    /** "4 the Y of one at the place of one told ahead, of a NEEDLE at that of one told ahead". */
    private static void likePlaces() {
        fault("one 1 2 0;one 1 2 0;", 4, 16);
        fault("one 1 2 0;one 1 2", 4, 16);
        fine("one 1 2 0;one 2 1 0;");
        fine("one 1 2 0;one 1 1 0;one 1 3 0;one 0 2 0;one 2 2 0;");
        fault("one 0 0 0;one 0 0 0;", 4, 16);
        fault("one 40 40 0;one 40 40 0;", 4, 19);
        fault("one 01 2 0;one 1 002 0;", 4, 17);
        fault(people(9) + "one 0 0 0;", 4, 96);
        fault(people(9) + "one 8 0 0;", 4, 96);
        fine(people(9) + "one 9 0 0;");
        fault("needle 1 2 1 0;needle 1 2 1 0;", 4, 24);
        fault("needle 1 2 1 0;needle 1 2", 4, 24);
        fine("needle 1 2 1 0;needle 2 1 1 0;");
        fine("needle 1 2 1 0;needle 1 1 1 0;needle 1 3 1 0;needle 0 2 1 0;needle 2 2 1 0;");
        fault("needle 0 0 1 0;needle 0 0 1 0;", 4, 24);
        fault(needles(5) + "needle 0 0 1 0;", 4, 84);
        fault(needles(5) + "needle 4 0 1 0;", 4, 84);
        fine(needles(5) + "needle 5 0 1 0;");
        fine("one 1 2 0;needle 1 2 1 0;");
        fine("needle 1 2 1 0;one 1 2 0;");
        // those of the text ahead don't count
        SaucerFair x = Due.of("one 1 2 0;needle 3 4 1 0;");
        DUE.is("the same text again", Due.read(x, "one 1 2 0;needle 3 4 1 0;"), 0);
        DUE.is("one with a FAULT", Due.read(x, "one 1 2 0;needle 3 4 1 0;x"), 1);
        DUE.is("the same text once more", Due.read(x, "one 1 2 0;needle 3 4 1 0;"), 0);
    }

    /** "5 a second 'turns', 'court'". */
    private static void secondRules() {
        for (String word : new String[] {"turns", "court"}) {
            String other = word.equals("turns") ? "court" : "turns";
            fine(word + " 0;");
            fine(word + " 0;" + other + " 0;");
            fault(word + " 0;" + word + " 0;", 5, 8);
            fault(word + " 0;" + word, 5, 8);
            fault(word + " 0;" + word + " #", 5, 8);
            fault(word + " 0;" + other + " 0;" + word + " 1;", 5, 16);
            fault(word + " 0;one 1 1 1;" + word + " 1;", 5, 18);
            // one of the text ahead, with a FAULT or without, is none of this one
            SaucerFair x = Due.of(word + " 0;");
            DUE.is("again", Due.read(x, word + " 0;"), 0);
            DUE.is("twice", Due.read(x, word + " 0;" + word + " 0;"), 5);
            DUE.is("once", Due.read(x, word + " 0;"), 0);
        }
    }

    // ---- which FAULT

    /** "FAULTS, the first along the text". */
    private static void firstAlongTheText() {
        fault("one 41 41 10;", 2, 4);
        fault("one 1 41 10", 2, 6);
        fault("one 1 1 10", 2, 8);
        fault("says 0 0 10;turns 1;turns 1;", 3, 7);
        fault("one 1 1 1;one 1 1 10;", 4, 16);
        fault("one 1 1 1;one 1 1 #", 4, 16);
        fault("turns 1;turns far far;", 5, 8);
        fault("turns xyz;#", 3, 6);
        fault("#one 41", 1, 0);
        fault("turns 12345 xyz;", 2, 6);
        fault("turns xyz 12345;", 3, 6);
        fault("turns 1 xyz 12345;", 1, 8);
    }

    /** "of one TOKEN the least". */
    private static void leastOfOneToken() {
        // can't stand there, and has 5 digits
        fault("12345", 1, 0);
        fault("one 1 1 1 12345", 1, 10);
        fault("court 1 12345", 1, 8);
        // 5 digits, and not told ahead
        fault("one 1 1 1;says 0 12345 0;", 2, 17);
        fault("one 1 1 1;says 0 00000 0;", 2, 17);
        // 5 digits, and the place of one told ahead
        fault("one 1 1 1;one 1 00001 1;", 2, 16);
        fault("needle 1 1 1 1;needle 1 00001 1 1;", 2, 24);
        // within 6 others, and no VALUE
        fault("court ((((((far", 2, 12);
        fault("court ((((((12345", 2, 12);
        // the seventh 'not', and within 6 others
        fault("court (((((not not not not not not (not", 2, 36);
        // can't stand there, and would be the 11th, the second
        fault(people(10) + "turns one 1 1 1;", 3, 106);
        fault("turns 1 turns 1;", 1, 8);
        fault("one turns 1;", 1, 4);
    }

    /** "all anew": nothing of the texts ahead is left, be it the one ahead, one with a FAULT, or the one ahead of that. */
    private static void eachTextAnew() {
        String full = people(10) + needles(6) + "says 9 9 9;".repeat(16) + "turns 1;court 1;";
        SaucerFair x = new SaucerFair();
        for (int i = 0; i < 4; i++) {
            DUE.is("a full text", Due.read(x, full), 0);
            if (i % 2 == 1) {
                DUE.is("a full text with a FAULT", Due.read(x, full + "court"), 5);
            }
            DUE.is("it is full", x.count(0) * 10000 + x.count(1) * 100 + x.count(2), 100616);
            DUE.is("a small text", Due.read(x, "one 0 0 1;needle 40 40 1 9;says 5 0 1;"), 0);
            DUE.is("it is small", x.count(0) * 10000 + x.count(1) * 100 + x.count(2), 10101);
            DUE.is("TURNS is gone", x.needle(0, 4), 0);
            DUE.is("COURT is gone", x.accused(99), -1);
            DUE.is("an empty text", x.fair(0), 0);
            DUE.is("it is empty", x.count(0) * 10000 + x.count(1) * 100 + x.count(2), 0);
        }
        // a longer rule of a text ahead leaves nothing behind a shorter one's end
        String[] longer = {"not 1", "not not 1", "1 and 0", "1-1", "1*0", "1<0"};
        for (String rule : longer) {
            for (int between = 0; between < 3; between++) {
                SaucerFair y = Due.of("one 0 0 1;needle 1 1 9 0;says 0 0 1;turns " + rule + ";court " + rule + ";");
                for (int i = 0; i < between; i++) {
                    Due.read(y, i % 2 == 0 ? "one 0 0 1;" : "turns " + rule + ";court " + rule + ";#");
                }
                DUE.is("a shorter rule", Due.read(y, "one 0 0 1;needle 1 1 9 0;says 0 0 1;turns 1;court 1;"), 0);
                DUE.is("TURNS of it behind " + rule, y.needle(0, 4), 1);
                DUE.is("COURT of it behind " + rule, y.accused(0), 0);
            }
        }
    }
}
