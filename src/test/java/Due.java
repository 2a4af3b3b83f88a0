import java.util.NoSuchElementException;

/** Answers that are due: tells each that is another one, and ends with exit code 1 if there was one. */
final class Due {
    interface Call {
        long answer();
    }

    private final String name;
    private int wrong;
    private int asked;

    Due(String name) {
        this.name = name;
    }

    void is(String what, long got, long want) {
        asked++;
        if (got != want) {
            wrong++;
            System.out.println(name + ": " + what + " answered " + got + ", due is " + want);
        }
    }

    void isTrue(String what, boolean got) {
        is(what, got ? 1 : 0, 1);
    }

    void isFalse(String what, boolean got) {
        is(what, got ? 1 : 0, 0);
    }

    void noSuch(String what, Call call) {
        isThrown(what, call, NoSuchElementException.class);
    }

    void illegal(String what, Call call) {
        isThrown(what, call, IllegalArgumentException.class);
    }

    private void isThrown(String what, Call call, Class<?> want) {
        asked++;
        String got;
        try {
            got = "answered " + call.answer();
        } catch (RuntimeException e) {
            if (e.getClass() == want) {
                return;
            }
            got = "threw " + e.getClass().getName();
        }
        wrong++;
        System.out.println(name + ": " + what + " " + got + ", due is " + want.getName());
    }

    void end() {
        System.out.println(name + ": " + asked + " answers, " + wrong + " not as due");
        if (wrong != 0) {
            System.exit(1);
        }
    }

    /** Feeds a text, filled up with blanks to whole twenties: what the last feed answers. */
    static int feed(SaucerFair x, String text) {
        int answer = x.count(6);
        for (int at = 0; at < text.length(); at += 20) {
            int[] row = new int[5];
            for (int i = 0; i < 20; i++) {
                int sign = at + i < text.length() ? text.charAt(at + i) & 255 : ' ';
                row[i / 4] = row[i / 4] << 8 | sign;
            }
            answer = x.feed(row[0], row[1], row[2], row[3], row[4]);
        }
        return answer;
    }

    /** What fair() answers to a text, its blanks at the end left out. */
    static int read(SaucerFair x, String text) {
        feed(x, text);
        return x.fair(text.length());
    }

    static SaucerFair of(String text) {
        SaucerFair x = new SaucerFair();
        int fault = read(x, text);
        if (fault != 0) {
            throw new IllegalStateException("fault " + fault + " at " + x.fault() + " of " + text);
        }
        return x;
    }
}
