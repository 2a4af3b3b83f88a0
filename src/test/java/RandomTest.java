import java.util.NoSuchElementException;
import java.util.Random;

/** Runs of calls by fixed seeds, on SaucerFair and on Model: every answer and every exception is the same. */
final class RandomTest {
    private static final String[] TURNS = {"degree", "skill", "far", "reach", "rust", "hour"};
    private static final String[] COURT = {"points", "flat", "skill", "said", "hour"};
    private static final String[] PIECES = {"one", "needle", "says", "turns", "court", "not", "and", "or", "far", "points",
        "(", ")", "+", "-", "*", "/", "<", "=", ";", "0", "1", "7", "12", "41", "99", "100", "12345", "0003", "00003", "x",
        "not not not", "((((", "))))", "#", "A", "\n", " ", "\u00e9", "\t", "says 0 0 1;", "one 1 1 1;"};
    private static final int CALLS = 45;

    private final Random random;
    private final SaucerFair real = new SaucerFair();
    private final Model model = new Model();
    private final StringBuilder log = new StringBuilder();
    private int span;
    private int hours;

    private RandomTest(long seed) {
        random = new Random(seed);
    }

    public static void main(String[] args) {
        int runs = args.length > 0 ? Integer.parseInt(args[0]) : 400;
        int from = args.length > 1 ? Integer.parseInt(args[1]) : 0;
        for (int seed = from; seed < from + runs; seed++) {
            new RandomTest(seed).run(seed);
            new RandomTest(seed).readTexts();
        }
        System.out.println("RandomTest: " + runs + " runs as the model");
    }

    private int upTo(int most) {
        return random.nextInt(most + 1);
    }

    private void run(int seed) {
        int calls = 20 + upTo(300);
        for (int i = 0; i < calls; i++) {
            if (i == 0 && seed % 10 != 0 || upTo(80) == 0) {
                feedFair(upTo(3) == 0 && i > 0);
            } else {
                call(upTo(CALLS - 1));
            }
        }
    }

    private void readTexts() {
        for (int i = 0; i < 10; i++) {
            feedFair(i % 4 != 0);
            int what = i;
            both("count " + what, () -> real.count(what), () -> model.count(what));
        }
    }

    // ---- texts

    private void feedFair(boolean broken) {
        span = new int[] {2, 4, 10, 40}[upTo(3)];
        hours = new int[] {3, 9, 99}[upTo(2)];
        String text = text();
        if (broken) {
            text = broken(text);
        }
        if (text.length() > 700) {
            text = text.substring(0, 700);
        }
        String whole = text;
        both("fair(0)", () -> real.fair(0), () -> model.fair(0));
        for (int at = 0; at < whole.length(); at += 20) {
            int[] row = new int[5];
            for (int i = 0; i < 20; i++) {
                row[i / 4] = row[i / 4] << 8 | (at + i < whole.length() ? whole.charAt(at + i) & 255 : 32);
            }
            both("feed", () -> real.feed(row[0], row[1], row[2], row[3], row[4]),
                () -> model.feed(row[0], row[1], row[2], row[3], row[4]));
        }
        both("fair of " + whole, () -> real.fair(whole.length()), () -> model.fair(whole.length()));
        both("fault()", real::fault, model::fault);
    }

    private String text() {
        StringBuilder out = new StringBuilder();
        int[] taken = new int[1681];
        int people = upTo(4) == 0 ? 10 : upTo(6);
        int told = 0;
        for (int i = 0; i < people; i++) {
            int place = upTo(span) * 41 + upTo(span);
            if ((taken[place] & 1) == 0) {
                taken[place] |= 1;
                told++;
                out.append("one ").append(place % 41).append(' ').append(place / 41).append(' ').append(upTo(9)).append(";");
            }
        }
        int needles = upTo(4) == 0 ? 6 : upTo(4);
        for (int i = 0; i < needles; i++) {
            int place = upTo(span) * 41 + upTo(span);
            if ((taken[place] & 2) == 0) {
                taken[place] |= 2;
                int reach = upTo(2) == 0 ? 1 + upTo(59) : 1 + upTo(span);
                out.append("needle ").append(place % 41).append(' ').append(place / 41).append(' ');
                out.append(reach).append(' ').append(upTo(1) * upTo(9)).append(";\n");
            }
        }
        if (upTo(2) == 0) {
            out.append("turns ").append(expr(TURNS, upTo(3))).append(';');
        }
        if (upTo(2) == 0) {
            out.append(" court ").append(expr(COURT, upTo(3))).append(" ;");
        }
        int sayings = upTo(5) == 0 ? 16 : upTo(8);
        for (int i = 0; i < sayings && told > 0; i++) {
            out.append("says ").append(upTo(hours)).append(' ').append(upTo(told - 1)).append(' ');
            out.append(upTo(9)).append(";");
        }
        return out.toString();
    }

    private String expr(String[] values, int depth) {
        if (depth == 0) {
            return upTo(2) == 0 ? "" + upTo(upTo(3) == 0 ? 9999 : 12) : values[upTo(values.length - 1)];
        }
        String a = expr(values, depth - 1);
        String b = expr(values, upTo(depth - 1));
        switch (upTo(10)) {
            case 0:
                return a + " or " + b;
            case 1:
                return a + " and " + b;
            case 2:
                return "not " + a;
            case 3:
                return "(" + a + ") < (" + b + ")";
            case 4:
                return "(" + a + ")=(" + b + ")";
            case 5:
                return "(" + a + ")+(" + b + ")";
            case 6:
                return "(" + a + ")-(" + b + ")";
            case 7:
                return "(" + a + ")*(" + b + ")";
            case 8:
                return "(" + a + ")/(" + b + ")";
            case 9:
                return a + "*" + values[upTo(values.length - 1)] + "-" + upTo(9) + "/" + upTo(3);
            default:
                return "(" + a + ")";
        }
    }

    private String broken(String text) {
        StringBuilder out = new StringBuilder(text);
        for (int i = upTo(2); i >= 0 && out.length() > 0; i--) {
            int at = upTo(out.length() - 1);
            String piece = PIECES[upTo(PIECES.length - 1)];
            switch (upTo(3)) {
                case 0:
                    out.deleteCharAt(at);
                    break;
                case 1:
                    out.insert(at, piece);
                    break;
                case 2:
                    out.replace(at, Math.min(out.length(), at + 1 + upTo(5)), " " + piece + " ");
                    break;
                default:
                    out.setLength(at);
                    break;
            }
        }
        return out.toString();
    }

    // ---- calls

    interface Call {
        long answer();
    }

    private void both(String what, Call one, Call other) {
        String got = outcome(one);
        String want = outcome(other);
        log.append(what).append(" -> ").append(want).append('\n');
        if (!got.equals(want)) {
            System.out.println(log);
            System.out.println("RandomTest: " + what + " answered " + got + ", due is " + want);
            System.exit(1);
        }
    }

    private static String outcome(Call call) {
        try {
            return "" + call.answer();
        } catch (NoSuchElementException | IllegalArgumentException e) {
            return e.getClass().getName();
        }
    }

    /** Mostly within 0 and most, sometimes a little or far outside. */
    private int about(int most) {
        int kind = upTo(25);
        if (kind == 0) {
            return random.nextInt();
        }
        if (kind == 1) {
            return -1;
        }
        return kind == 2 ? most + 1 : upTo(Math.max(most, 0));
    }

    private int person() {
        return about(model.people.size() - 1);
    }

    private int needle() {
        return about(model.needles.size() - 1);
    }

    private int saying() {
        return about(model.sayings.size() - 1);
    }

    private int hour() {
        return upTo(2) == 0 ? about(99) : about(hours);
    }

    private int bits(int members) {
        return upTo(12) == 0 ? random.nextInt() : upTo((1 << members) - 1);
    }

    private void call(int which) {
        int p = person();
        int q = person();
        int n = needle();
        int s = saying();
        int h = hour();
        int d = about(9);
        int two = about(1);
        int three = about(2);
        switch (which) {
            case 0:
                both("fault", real::fault, model::fault);
                break;
            case 1:
                int what = about(11);
                both("count " + what, () -> real.count(what), () -> model.count(what));
                break;
            case 2:
                int of = about(4);
                both("one " + p + " " + of, () -> real.one(p, of), () -> model.one(p, of));
                break;
            case 3:
            case 4:
                int on = about(6);
                both("needle " + n + " " + on, () -> real.needle(n, on), () -> model.needle(n, on));
                break;
            case 5:
                int by = about(3);
                both("saying " + s + " " + by, () -> real.saying(s, by), () -> model.saying(s, by));
                break;
            case 6:
                both("shows " + n + " " + h, () -> real.shows(n, h), () -> model.shows(n, h));
                break;
            case 7:
                both("last " + n + " " + h, () -> real.last(n, h), () -> model.last(n, h));
                break;
            case 8:
                both("points " + p + " " + h, () -> real.points(p, h), () -> model.points(p, h));
                break;
            case 9:
                int a = upTo(1) == 0 ? random.nextInt() : upTo(12) - 6;
                int b = upTo(1) == 0 ? random.nextInt() : upTo(12) - 6;
                both("side " + a + " " + b, () -> real.side(a, b), () -> model.side(a, b));
                break;
            case 10:
                both("accused " + h, () -> real.accused(h), () -> model.accused(h));
                break;
            case 11:
            case 12:
                both("tell " + h + " " + p + " " + d, () -> real.tell(h, p, d), () -> model.tell(h, p, d));
                break;
            case 13:
                both("back", real::back, model::back);
                break;
            case 14:
                both("rust " + n + " " + d, () -> real.rust(n, d), () -> model.rust(n, d));
                break;
            case 15:
                int x = about(span);
                int y = about(upTo(3) == 0 ? 40 : span);
                both("carry " + n + " " + x + " " + y, () -> real.carry(n, x, y), () -> model.carry(n, x, y));
                break;
            case 16:
                both("undo", real::undo, model::undo);
                break;
            default:
                ask(which, p, q, n, s, h);
                break;
        }
        if (which == 30) {
            both("hideouts " + p + " " + d + " " + h + " " + two, () -> real.hideouts(p, d, h, two),
                () -> model.hideouts(p, d, h, two));
            both("just " + d + " " + h + " " + three, () -> real.just(d, h, three), () -> model.just(d, h, three));
        }
    }

    private void ask(int which, int p, int q, int n, int s, int h) {
        int d = about(9);
        int two = about(1);
        switch (which) {
            case 17:
                both("clash", real::clash, model::clash);
                break;
            case 18:
                int three = about(2);
                both("just " + d + " " + h + " " + three, () -> real.just(d, h, three), () -> model.just(d, h, three));
                break;
            case 19:
                both("apart " + d + " " + h, () -> real.apart(d, h), () -> model.apart(d, h));
                break;
            case 20:
                both("alibi " + p + " " + d + " " + h, () -> real.alibi(p, d, h), () -> model.alibi(p, d, h));
                break;
            case 21:
                int needles = bits(model.needles.size());
                both("plan " + needles + " " + h + " " + d, () -> real.plan(needles, h, d), () -> model.plan(needles, h, d));
                break;
            case 22:
            case 23:
                seeSomething(n, h);
                break;
            case 24:
                if (upTo(2) == 0) {
                    real.forget();
                    model.forget();
                }
                both("seen", () -> real.count(5), () -> model.count(5));
                break;
            case 25:
                both("planted", real::planted, model::planted);
                break;
            case 26:
                both("suspects " + h, () -> real.suspects(h), () -> model.suspects(h));
                break;
            case 27:
                both("spots " + h + " " + two, () -> real.spots(h, two), () -> model.spots(h, two));
                break;
            case 28:
                int people = bits(model.people.size());
                both("saucer " + people + " " + h + " " + two, () -> real.saucer(people, h, two),
                    () -> model.saucer(people, h, two));
                break;
            case 29:
                int much = about(upTo(1) == 0 ? 99 : 9);
                both("game " + p + " " + q + " " + h + " " + much + " " + two, () -> real.game(p, q, h, much, two),
                    () -> model.game(p, q, h, much, two));
                break;
            default:
                askOfAll(which, p, n, s, h);
                break;
        }
    }

    private void seeSomething(int n, int h) {
        int shown = about(9);
        if (upTo(3) != 0 && n >= 0 && n < model.needles.size() && h >= 0 && h <= 99) {
            shown = model.shows(n, h);
        } else if (upTo(3) == 0) {
            shown = -1;
        }
        int what = shown;
        both("see " + n + " " + h + " " + what, () -> real.see(n, h, what), () -> model.see(n, h, what));
    }

    private void askOfAll(int which, int p, int n, int s, int h) {
        int d = about(9);
        int two = about(1);
        switch (which) {
            case 31:
                int seed = random.nextInt();
                int years = about(99);
                int three = about(2);
                both("years " + seed + " " + years + " " + three, () -> real.years(seed, years, three),
                    () -> model.years(seed, years, three));
                break;
            case 32:
                int side = about(10) - 1;
                both("shown " + n + " " + side, () -> real.shown(n, side), () -> model.shown(n, side));
                break;
            case 33:
                both("named " + p + " " + two, () -> real.named(p, two), () -> model.named(p, two));
                break;
            case 34:
                both("butFor " + s, () -> real.butFor(s), () -> model.butFor(s));
                break;
            case 35:
                both("rusted " + n, () -> real.rusted(n), () -> model.rusted(n));
                break;
            case 36:
                both("ears " + d + " " + h, () -> real.ears(d, h), () -> model.ears(d, h));
                break;
            case 37:
                both("hideouts " + p + " " + d + " " + h + " " + two, () -> real.hideouts(p, d, h, two),
                    () -> model.hideouts(p, d, h, two));
                break;
            case 38:
                both("pardon " + p + " " + h, () -> real.pardon(p, h), () -> model.pardon(p, h));
                break;
            case 39:
                both("falsely " + n, () -> real.falsely(n), () -> model.falsely(n));
                break;
            case 40:
                both("truest", real::truest, model::truest);
                break;
            case 41:
                both("first " + p, () -> real.first(p), () -> model.first(p));
                break;
            case 42:
                both("busiest " + two, () -> real.busiest(two), () -> model.busiest(two));
                break;
            case 43:
                if (upTo(2) == 0) {
                    log.append("image\n");
                    real.image();
                    model.image();
                }
                break;
            case 44:
                both("restore", () -> real.restore() ? 1 : 0, () -> model.restore() ? 1 : 0);
                break;
            default:
                break;
        }
    }
}
