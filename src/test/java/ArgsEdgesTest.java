import java.util.ArrayList;
import java.util.Arrays;
import java.util.List;

/**
 * Every argument of every call at its least and its greatest, one beyond each and far beyond, all of them together: what is
 * thrown or refused, which of it comes ahead, that nothing changes then; and what is answered within the bounds (as Model).
 */
final class ArgsEdgesTest {
    private static final Due DUE = new Due("ArgsEdgesTest");

    /** What a wrong argument leads to; of several wrong ones the first of these. */
    private enum Wrong { NO_SUCH, ILLEGAL, REFUSED }

    private enum Kind { PERSON, NEEDLE, SAYING, HOUR, DEGREE, BITS_OF_NEEDLES, BITS_OF_PEOPLE, FIXED, ANY }

    private record Arg(Kind kind, int least, int most, Wrong wrong) {
        static Arg of(Kind kind, Wrong wrong) {
            return new Arg(kind, 0, 0, wrong);
        }

        static Arg fixed(int least, int most, Wrong wrong) {
            return new Arg(Kind.FIXED, least, most, wrong);
        }

        int lowest() {
            return kind == Kind.FIXED ? least : kind == Kind.DEGREE ? 1 : kind == Kind.ANY ? Integer.MIN_VALUE : 0;
        }

        int highest(Model model) {
            switch (kind) {
                case PERSON:
                    return model.people.size() - 1;
                case NEEDLE:
                    return model.needles.size() - 1;
                case SAYING:
                    return model.sayings.size() - 1;
                case HOUR:
                    return 99;
                case DEGREE:
                    return 9;
                case BITS_OF_NEEDLES:
                    return (1 << model.needles.size()) - 1;
                case BITS_OF_PEOPLE:
                    return (1 << model.people.size()) - 1;
                case FIXED:
                    return most;
                default:
                    return Integer.MAX_VALUE;
            }
        }

        boolean fits(int value, Model model) {
            return value >= lowest() && value <= highest(model);
        }
    }

    private interface OnReal {
        long answer(SaucerFair x, int[] a);
    }

    private interface OnModel {
        long answer(Model x, int[] a);
    }

    private static final Arg PERSON = Arg.of(Kind.PERSON, Wrong.NO_SUCH);
    private static final Arg NEEDLE = Arg.of(Kind.NEEDLE, Wrong.NO_SUCH);
    private static final Arg SAYING = Arg.of(Kind.SAYING, Wrong.NO_SUCH);
    private static final Arg HOUR = Arg.of(Kind.HOUR, Wrong.NO_SUCH);
    private static final Arg ILLEGAL_HOUR = Arg.of(Kind.HOUR, Wrong.ILLEGAL);
    private static final Arg REFUSED_HOUR = Arg.of(Kind.HOUR, Wrong.REFUSED);
    private static final Arg LIE = Arg.of(Kind.DEGREE, Wrong.ILLEGAL);
    private static final Arg ANY = Arg.of(Kind.ANY, Wrong.ILLEGAL);
    private static final Arg ONE = what(1);
    private static final Arg TWO = what(2);

    private static Arg what(int most) {
        return Arg.fixed(0, most, Wrong.NO_SUCH);
    }

    private static final String FULL = "one 0 0 0;one 40 0 9;one 0 40 5;one 40 40 1;one 20 20 2;one 19 21 3;one 5 7 4;"
        + "one 33 3 6;one 3 33 7;one 12 30 8;needle 0 0 60 0;needle 40 40 1 9;needle 20 20 15 3;needle 7 31 40 8;"
        + "needle 30 10 20 1;needle 20 0 25 0;says 0 0 9;says 99 9 1;says 50 4 0;says 50 5 5;says 50 6 9;says 7 3 9;"
        + "says 7 2 9;says 31 8 3;says 32 9 9;says 98 1 9;says 1 7 2;says 60 4 9;says 60 4 8;says 75 0 7;says 88 2 6;";
    private static final String ONE_OF_EACH = "one 3 4 5;needle 5 5 4 2;says 9 0 3;";
    private static final String PAIR = "one 3 4 5;one 9 4 0;needle 5 5 4 2;needle 3 4 60 0;says 9 0 3;says 9 1 9;";
    private static final String RULED = PAIR + "turns far-hour/9+degree;court points+skill-said*2+flat;";
    private static final String[] FAIRS = {"", ONE_OF_EACH, PAIR, RULED, FULL};

    public static void main(String[] args) {
        ofWhatThereIs();
        ofWhatIsShown();
        ofActs();
        ofOneLie();
        ofWhatIsSeen();
        ofGames();
        ofAllHours();
        withoutArguments();
        DUE.end();
    }

    // ---- the calls

    private static void ofWhatThereIs() {
        check("count", (x, a) -> x.count(a[0]), (x, a) -> x.count(a[0]), what(11));
        check("one", (x, a) -> x.one(a[0], a[1]), (x, a) -> x.one(a[0], a[1]), PERSON, what(4));
        check("needle", (x, a) -> x.needle(a[0], a[1]), (x, a) -> x.needle(a[0], a[1]), NEEDLE, what(6));
        check("saying", (x, a) -> x.saying(a[0], a[1]), (x, a) -> x.saying(a[0], a[1]), SAYING, what(3));
    }

    private static void ofWhatIsShown() {
        check("shows", (x, a) -> x.shows(a[0], a[1]), (x, a) -> x.shows(a[0], a[1]), NEEDLE, HOUR);
        check("last", (x, a) -> x.last(a[0], a[1]), (x, a) -> x.last(a[0], a[1]), NEEDLE, HOUR);
        check("points", (x, a) -> x.points(a[0], a[1]), (x, a) -> x.points(a[0], a[1]), PERSON, HOUR);
        check("side", (x, a) -> x.side(a[0], a[1]), (x, a) -> x.side(a[0], a[1]), ANY, ANY);
        check("accused", (x, a) -> x.accused(a[0]), (x, a) -> x.accused(a[0]), HOUR);
    }

    private static void ofActs() {
        Arg nine = Arg.fixed(0, 9, Wrong.REFUSED);
        Arg place = Arg.fixed(0, 40, Wrong.REFUSED);
        check("tell", (x, a) -> x.tell(a[0], a[1], a[2]), (x, a) -> x.tell(a[0], a[1], a[2]), REFUSED_HOUR, PERSON, nine);
        check("rust", (x, a) -> x.rust(a[0], a[1]), (x, a) -> x.rust(a[0], a[1]), NEEDLE, nine);
        check("carry", (x, a) -> x.carry(a[0], a[1], a[2]), (x, a) -> x.carry(a[0], a[1], a[2]), NEEDLE, place, place);
    }

    private static void ofOneLie() {
        Arg side = Arg.fixed(0, 9, Wrong.ILLEGAL);
        Arg needles = Arg.of(Kind.BITS_OF_NEEDLES, Wrong.ILLEGAL);
        check("just", (x, a) -> x.just(a[0], a[1], a[2]), (x, a) -> x.just(a[0], a[1], a[2]), LIE, ILLEGAL_HOUR, TWO);
        check("apart", (x, a) -> x.apart(a[0], a[1]), (x, a) -> x.apart(a[0], a[1]), LIE, ILLEGAL_HOUR);
        check("alibi", (x, a) -> x.alibi(a[0], a[1], a[2]), (x, a) -> x.alibi(a[0], a[1], a[2]), PERSON, LIE, ILLEGAL_HOUR);
        check("plan", (x, a) -> x.plan(a[0], a[1], a[2]), (x, a) -> x.plan(a[0], a[1], a[2]), needles, HOUR, side);
        check("ears", (x, a) -> x.ears(a[0], a[1]), (x, a) -> x.ears(a[0], a[1]), LIE, ILLEGAL_HOUR);
        check("hideouts", (x, a) -> x.hideouts(a[0], a[1], a[2], a[3]), (x, a) -> x.hideouts(a[0], a[1], a[2], a[3]),
            PERSON, LIE, ILLEGAL_HOUR, ONE);
    }

    private static void ofWhatIsSeen() {
        Arg shown = Arg.fixed(-1, 9, Wrong.REFUSED);
        Arg people = Arg.of(Kind.BITS_OF_PEOPLE, Wrong.ILLEGAL);
        check("see", (x, a) -> x.see(a[0], a[1], a[2]), (x, a) -> x.see(a[0], a[1], a[2]), NEEDLE, HOUR, shown);
        check("suspects", (x, a) -> x.suspects(a[0]), (x, a) -> x.suspects(a[0]), HOUR);
        check("spots", (x, a) -> x.spots(a[0], a[1]), (x, a) -> x.spots(a[0], a[1]), HOUR, ONE);
        check("saucer", (x, a) -> x.saucer(a[0], a[1], a[2]), (x, a) -> x.saucer(a[0], a[1], a[2]), people, HOUR, ONE);
    }

    private static void ofGames() {
        Arg much = Arg.fixed(0, 99, Wrong.ILLEGAL);
        Arg n = Arg.fixed(0, 99, Wrong.ILLEGAL);
        check("game", (x, a) -> x.game(a[0], a[1], a[2], a[3], a[4]), (x, a) -> x.game(a[0], a[1], a[2], a[3], a[4]),
            PERSON, PERSON, HOUR, much, ONE);
        check("years", (x, a) -> x.years(a[0], a[1], a[2]), (x, a) -> x.years(a[0], a[1], a[2]), ANY, n, TWO);
    }

    private static void ofAllHours() {
        Arg side = Arg.fixed(-1, 9, Wrong.NO_SUCH);
        check("shown", (x, a) -> x.shown(a[0], a[1]), (x, a) -> x.shown(a[0], a[1]), NEEDLE, side);
        check("named", (x, a) -> x.named(a[0], a[1]), (x, a) -> x.named(a[0], a[1]), PERSON, ONE);
        check("butFor", (x, a) -> x.butFor(a[0]), (x, a) -> x.butFor(a[0]), SAYING);
        check("rusted", (x, a) -> x.rusted(a[0]), (x, a) -> x.rusted(a[0]), NEEDLE);
        check("pardon", (x, a) -> x.pardon(a[0], a[1]), (x, a) -> x.pardon(a[0], a[1]), PERSON, HOUR);
        check("falsely", (x, a) -> x.falsely(a[0]), (x, a) -> x.falsely(a[0]), NEEDLE);
        check("first", (x, a) -> x.first(a[0]), (x, a) -> x.first(a[0]), PERSON);
        check("busiest", (x, a) -> x.busiest(a[0]), (x, a) -> x.busiest(a[0]), ONE);
    }

    private static void withoutArguments() {
        check("clash", (x, a) -> x.clash(), (x, a) -> x.clash());
        check("planted", (x, a) -> x.planted(), (x, a) -> x.planted());
        check("truest", (x, a) -> x.truest(), (x, a) -> x.truest());
        check("fault", (x, a) -> x.fault(), (x, a) -> x.fault());
    }

    // ---- how they are called

    private static void check(String name, OnReal real, OnModel slow, Arg... args) {
        for (String text : FAIRS) {
            Model model = model(text);
            SaucerFair x = fair(text);
            String before = all(x);
            for (int[] row : rows(model, args)) {
                String what = name + " " + Arrays.toString(row) + " of '" + text + "'";
                Wrong wrong = wrong(name, row, model, args);
                if (wrong == null || wrong == Wrong.REFUSED) {
                    SaucerFair y = fair(text);
                    long want = slow.answer(model(text), row);
                    DUE.is(what, real.answer(y, row), want);
                    DUE.is(what + ": refused", y.count(8) + y.count(9), wrong == Wrong.REFUSED ? 1 : 0);
                    if (wrong == Wrong.REFUSED) {
                        DUE.is(what + ": NONE", want, -1);
                        DUE.isTrue(what + ": nothing changes", all(y).equals(before));
                    }
                } else {
                    isThrown(what, x, real, row, wrong);
                }
            }
            DUE.isTrue(name + ": nothing changes in '" + text + "'", all(x).equals(before));
            DUE.is(name + ": what is thrown is not in STATUS", x.count(7) + x.count(8) + x.count(9), 0);
        }
    }

    private static void isThrown(String what, SaucerFair x, OnReal real, int[] row, Wrong wrong) {
        if (wrong == Wrong.NO_SUCH) {
            DUE.noSuch(what, () -> real.answer(x, row));
        } else {
            DUE.illegal(what, () -> real.answer(x, row));
        }
    }

    private static Wrong wrong(String name, int[] row, Model model, Arg[] args) {
        Wrong worst = null;
        for (int i = 0; i < args.length; i++) {
            Wrong is = args[i].fits(row[i], model) ? null : args[i].wrong;
            worst = is == null ? worst : worst == null || is.ordinal() < worst.ordinal() ? is : worst;
        }
        // "both are one", behind what is no such PERSON, HOUR, what
        return worst == null && name.equals("game") && row[0] == row[1] ? Wrong.ILLEGAL : worst;
    }

    /** All rows of edges: the least, the greatest, one beyond each, the ends of int. */
    private static List<int[]> rows(Model model, Arg[] args) {
        List<int[]> rows = new ArrayList<>();
        rows.add(new int[args.length]);
        for (int i = 0; i < args.length; i++) {
            List<int[]> longer = new ArrayList<>();
            for (int[] row : rows) {
                for (int value : edges(args[i], model)) {
                    int[] more = row.clone();
                    more[i] = value;
                    longer.add(more);
                }
            }
            rows = longer;
        }
        return rows;
    }

    private static List<Integer> edges(Arg arg, Model model) {
        int low = arg.lowest();
        int high = arg.highest(model);
        int[] all = {low, high, low - 1, high + 1, Integer.MIN_VALUE, Integer.MAX_VALUE};
        List<Integer> some = new ArrayList<>();
        for (int value : all) {
            if (!some.contains(value)) {
                some.add(value);
            }
        }
        if (arg.kind == Kind.ANY) {
            some.add(0);
        }
        return some;
    }

    private static SaucerFair fair(String text) {
        SaucerFair x = Due.of(text);
        for (int n = 0; n < x.count(1); n++) {
            x.see(n, 50, n + 2);
        }
        return x;
    }

    private static Model model(String text) {
        Model x = new Model();
        for (int at = 0; at < text.length(); at += 20) {
            int[] row = new int[5];
            for (int i = 0; i < 20; i++) {
                row[i / 4] = row[i / 4] << 8 | (at + i < text.length() ? text.charAt(at + i) : ' ');
            }
            x.feed(row[0], row[1], row[2], row[3], row[4]);
        }
        x.fair(text.length());
        for (int n = 0; n < x.needles.size(); n++) {
            x.see(n, 50, n + 2);
        }
        return x;
    }

    /** All that can be asked plainly, but STATUS. */
    private static String all(SaucerFair x) {
        StringBuilder out = new StringBuilder();
        for (int what : new int[] {0, 1, 2, 3, 4, 5, 6, 10, 11}) {
            out.append(x.count(what)).append(' ');
        }
        for (int p = 0; p < x.count(0); p++) {
            for (int what = 0; what <= 4; what++) {
                out.append(x.one(p, what)).append(' ');
            }
        }
        for (int n = 0; n < x.count(1); n++) {
            for (int what = 0; what <= 6; what++) {
                out.append(x.needle(n, what)).append(' ');
            }
            for (int hour = 0; hour < 100; hour++) {
                out.append(x.shows(n, hour)).append(' ');
            }
        }
        for (int s = 0; s < x.count(2); s++) {
            for (int what = 0; what <= 3; what++) {
                out.append(x.saying(s, what)).append(' ');
            }
        }
        return out.append(x.planted()).append(' ').append(x.fault()).toString();
    }
}
