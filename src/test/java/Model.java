import java.util.ArrayDeque;
import java.util.ArrayList;
import java.util.Deque;
import java.util.HashMap;
import java.util.HashSet;
import java.util.List;
import java.util.Map;
import java.util.NoSuchElementException;
import java.util.Set;

/** The document, read once more and as slowly as it stands, for RandomTest: it shares no code with SaucerFair. */
final class Model {
    static final int NONE = -1;

    record Place(int x, int y) {
    }

    record One(Place at, int skill) {
    }

    record Needle(Place at, int reach, int rust) {
    }

    record Saying(int hour, int who, Place at, int skill, int degree) {
    }

    record State(List<Needle> needles, List<Saying> sayings) {
    }

    record Sight(int needle, int hour, int shown) {
    }

    interface Expr {
        int value(Map<String, Integer> values);
    }

    static final class Fault extends RuntimeException {
        private static final long serialVersionUID = 1;
        final int kind;
        final int place;

        Fault(int kind, int place) {
            this.kind = kind;
            this.place = place;
        }
    }

    List<One> people = new ArrayList<>();
    List<Needle> needles = new ArrayList<>();
    List<Saying> sayings = new ArrayList<>();
    Expr turns;
    Expr court;
    Deque<State> acts = new ArrayDeque<>();
    List<Sight> seen = new ArrayList<>();
    State imageState;
    Deque<State> imageActs;
    List<Sight> imageSeen;
    String tape = "";
    int faultPlace = NONE;
    int[] status = new int[3];

    // ---- text

    int feed(int a, int b, int c, int d, int e) {
        if (tape.length() > 680) {
            return NONE;
        }
        StringBuilder out = new StringBuilder(tape);
        for (int number : new int[] {a, b, c, d, e}) {
            out.append((char) (number >>> 24)).append((char) (number >> 16 & 255));
            out.append((char) (number >> 8 & 255)).append((char) (number & 255));
        }
        tape = out.toString();
        return tape.length();
    }

    int fair(int n) {
        if (n < 0 || n > tape.length()) {
            throw new IllegalArgumentException();
        }
        String text = tape.substring(0, n);
        tape = "";
        ModelText read = new ModelText(text);
        try {
            read.fair();
        } catch (Fault fault) {
            faultPlace = fault.place;
            status[0]++;
            return fault.kind;
        }
        faultPlace = NONE;
        people = read.people;
        needles = read.needles;
        sayings = read.sayings;
        turns = read.turns;
        court = read.court;
        acts.clear();
        seen.clear();
        imageState = null;
        return 0;
    }

    int fault() {
        return faultPlace;
    }

    // ---- plain questions

    private static void need(boolean holds) {
        if (!holds) {
            throw new NoSuchElementException();
        }
    }

    private static void legal(boolean holds) {
        if (!holds) {
            throw new IllegalArgumentException();
        }
    }

    private void person(int p) {
        need(p >= 0 && p < people.size());
    }

    private void needleThere(int n) {
        need(n >= 0 && n < needles.size());
    }

    private static boolean isHour(int hour) {
        return hour >= 0 && hour <= 99;
    }

    int count(int what) {
        need(what >= 0 && what <= 11);
        int lies = 0;
        int last = NONE;
        int[] byHour = new int[100];
        int most = 0;
        for (Saying s : sayings) {
            last = Math.max(last, s.hour);
            if (s.degree > 0) {
                lies++;
                most = Math.max(most, ++byHour[s.hour]);
            }
        }
        int[] all = {people.size(), needles.size(), sayings.size(), lies, acts.size(), seen.size(), tape.length(),
            status[0], status[1], status[2], last, most};
        return all[what];
    }

    int one(int p, int what) {
        person(p);
        need(what >= 0 && what <= 4);
        One one = people.get(p);
        int said = 0;
        for (int s = 0; s < sayings.size(); s++) {
            said |= sayings.get(s).who == p ? 1 << s : 0;
        }
        int near = 0;
        for (int n = 0; n < needles.size(); n++) {
            near |= far(needles.get(n).at, one.at) <= needles.get(n).reach ? 1 << n : 0;
        }
        return new int[] {one.at.x, one.at.y, one.skill, said, near}[what];
    }

    int needle(int n, int what) {
        needleThere(n);
        need(what >= 0 && what <= 6);
        Needle needle = needles.get(n);
        int heard = 0;
        for (int s = 0; s < sayings.size(); s++) {
            heard |= hears(needle, sayings.get(s)) ? 1 << s : 0;
        }
        return new int[] {needle.at.x, needle.at.y, needle.reach, needle.rust, heard, quivers(n), worth(n)}[what];
    }

    private int quivers(int n) {
        int found = 0;
        for (int h = 1; h <= 99; h++) {
            found += shows(n, h) != shows(n, h - 1) ? 1 : 0;
        }
        return found;
    }

    private int worth(int n) {
        Needle needle = needles.get(n);
        int worth = 0;
        for (Saying s : sayings) {
            if (hears(needle, s)) {
                int shown = shows(n, s.hour);
                boolean right = pointsAt(needle, shown, s.at) || shown == 8 && s.at.equals(needle.at);
                worth += right ? 1 : -1;
            }
        }
        return worth;
    }

    int saying(int s, int what) {
        need(s >= 0 && s < sayings.size() && what >= 0 && what <= 3);
        Saying saying = sayings.get(s);
        int heard = 0;
        for (int n = 0; n < needles.size(); n++) {
            heard |= hears(needles.get(n), saying) ? 1 << n : 0;
        }
        return new int[] {saying.hour, saying.who, saying.degree, heard}[what];
    }

    // ---- needles

    static int far(Place a, Place b) {
        return Math.max(Math.abs(a.x - b.x), Math.abs(a.y - b.y));
    }

    boolean hears(Needle needle, Saying s) {
        if (s.degree == 0) {
            return false;
        }
        if (turns == null) {
            return far(needle.at, s.at) <= needle.reach && s.degree > needle.rust;
        }
        Map<String, Integer> values = new HashMap<>();
        values.put("degree", s.degree);
        values.put("skill", s.skill);
        values.put("far", far(needle.at, s.at));
        values.put("reach", needle.reach);
        values.put("rust", needle.rust);
        values.put("hour", s.hour);
        return turns.value(values) > 0;
    }

    int lastHour(Needle needle, int hour, List<Saying> all) {
        int last = NONE;
        for (Saying s : all) {
            if (s.hour <= hour && s.hour > last && hears(needle, s)) {
                last = s.hour;
            }
        }
        return last;
    }

    int shows(Needle needle, int hour, List<Saying> all) {
        int last = lastHour(needle, hour, all);
        if (last == NONE) {
            return NONE;
        }
        int a = 0;
        int b = 0;
        boolean flat = true;
        for (Saying s : all) {
            if (s.hour == last && hears(needle, s)) {
                a += s.at.x - needle.at.x;
                b += s.at.y - needle.at.y;
                flat &= s.at.equals(needle.at);
            }
        }
        return flat ? 8 : a == 0 && b == 0 ? 9 : side(a, b);
    }

    int shows(int n, int hour) {
        needleThere(n);
        need(isHour(hour));
        return shows(needles.get(n), hour, sayings);
    }

    int last(int n, int hour) {
        needleThere(n);
        need(isHour(hour));
        return lastHour(needles.get(n), hour, sayings);
    }

    int side(int a, int b) {
        double wide = Math.abs((double) a);
        double high = Math.abs((double) b);
        if (a == 0 && b == 0) {
            return 8;
        }
        if (wide > 2 * high) {
            return a > 0 ? 2 : 6;
        }
        if (high > 2 * wide) {
            return b > 0 ? 4 : 0;
        }
        return a > 0 && b < 0 ? 1 : a > 0 && b > 0 ? 3 : a < 0 && b > 0 ? 5 : 7;
    }

    boolean pointsAt(Needle needle, int shown, Place at) {
        return !at.equals(needle.at) && shown >= 0 && shown <= 7
            && side(at.x - needle.at.x, at.y - needle.at.y) == shown;
    }

    int points(int p, int hour) {
        person(p);
        need(isHour(hour));
        int bits = 0;
        for (int n = 0; n < needles.size(); n++) {
            bits |= pointsAt(needles.get(n), shows(n, hour), people.get(p).at) ? 1 << n : 0;
        }
        return bits;
    }

    int accused(int hour) {
        need(isHour(hour));
        return accused(hour, needles, sayings);
    }

    int accused(int hour, List<Needle> by, List<Saying> all) {
        int[] shown = new int[by.size()];
        for (int n = 0; n < by.size(); n++) {
            shown[n] = shows(by.get(n), hour, all);
        }
        int best = NONE;
        int most = 0;
        for (int p = 0; p < people.size(); p++) {
            int points = 0;
            int flat = 0;
            for (int n = 0; n < by.size(); n++) {
                points += pointsAt(by.get(n), shown[n], people.get(p).at) ? 1 : 0;
                flat += shown[n] == 8 && by.get(n).at.equals(people.get(p).at) ? 1 : 0;
            }
            int said = 0;
            for (Saying s : all) {
                said += s.who == p && s.hour <= hour ? 1 : 0;
            }
            int value = points;
            if (court != null) {
                value = court.value(Map.of("points", points, "flat", flat, "skill", people.get(p).skill,
                    "said", said, "hour", hour));
            }
            if (value > most) {
                most = value;
                best = p;
            }
        }
        return best;
    }

    // ---- acts

    private State now() {
        return new State(new ArrayList<>(needles), new ArrayList<>(sayings));
    }

    private void act() {
        acts.addLast(now());
        if (acts.size() > 40) {
            acts.removeFirst();
        }
    }

    private void become(State state) {
        needles = new ArrayList<>(state.needles);
        sayings = new ArrayList<>(state.sayings);
    }

    private Saying lie(int p, int hour, int degree) {
        return new Saying(hour, p, people.get(p).at, people.get(p).skill, degree);
    }

    private int refused(int which) {
        status[which]++;
        return NONE;
    }

    int tell(int hour, int p, int degree) {
        person(p);
        if (sayings.size() == 16 || !isHour(hour) || degree < 0 || degree > 9) {
            return refused(1);
        }
        act();
        sayings.add(lie(p, hour, degree));
        return sayings.size() - 1;
    }

    int back() {
        if (sayings.isEmpty()) {
            return refused(1);
        }
        act();
        sayings.remove(sayings.size() - 1);
        return sayings.size();
    }

    int rust(int n, int rust) {
        needleThere(n);
        if (rust < 0 || rust > 9) {
            return refused(1);
        }
        act();
        Needle old = needles.get(n);
        needles.set(n, new Needle(old.at, old.reach, rust));
        return old.rust;
    }

    int carry(int n, int x, int y) {
        needleThere(n);
        if (x < 0 || x > 40 || y < 0 || y > 40) {
            return refused(1);
        }
        act();
        Needle old = needles.get(n);
        needles.set(n, new Needle(new Place(x, y), old.reach, old.rust));
        return old.at.y * 100 + old.at.x;
    }

    int undo() {
        if (acts.isEmpty()) {
            return NONE;
        }
        become(acts.removeLast());
        return acts.size();
    }

    void image() {
        imageState = now();
        imageActs = new ArrayDeque<>(acts);
        imageSeen = new ArrayList<>(seen);
    }

    boolean restore() {
        if (imageState == null) {
            return false;
        }
        become(imageState);
        acts = new ArrayDeque<>(imageActs);
        seen = new ArrayList<>(imageSeen);
        return true;
    }

    // ---- clashes, lies alone

    private Set<Integer> pointed(int n, int hour) {
        Set<Integer> found = new HashSet<>();
        int shown = shows(n, hour);
        for (int p = 0; p < people.size(); p++) {
            if (pointsAt(needles.get(n), shown, people.get(p).at)) {
                found.add(p);
            }
        }
        return found;
    }

    int clash() {
        for (int hour = 0; hour < 100; hour++) {
            List<Set<Integer>> all = new ArrayList<>();
            for (int n = 0; n < needles.size(); n++) {
                all.add(pointed(n, hour));
            }
            for (Set<Integer> a : all) {
                for (Set<Integer> b : all) {
                    Set<Integer> both = new HashSet<>(a);
                    both.retainAll(b);
                    if (!a.isEmpty() && !b.isEmpty() && both.isEmpty()) {
                        return hour;
                    }
                }
            }
        }
        return NONE;
    }

    private static void legalLie(int degree, int hour) {
        legal(degree >= 1 && degree <= 9 && isHour(hour));
    }

    int just(int degree, int hour, int what) {
        need(what >= 0 && what <= 2);
        legalLie(degree, hour);
        int[] found = new int[3];
        for (int p = 0; p < people.size(); p++) {
            int whom = accused(hour, needles, List.of(lie(p, hour, degree)));
            found[whom == p ? 0 : whom != NONE ? 1 : 2]++;
        }
        return found[what];
    }

    int apart(int degree, int hour) {
        legalLie(degree, hour);
        int best = NONE;
        for (int bits = 0; bits < 1 << needles.size(); bits++) {
            Set<String> unlike = new HashSet<>();
            for (int p = 0; p < people.size(); p++) {
                StringBuilder all = new StringBuilder();
                for (int n = 0; n < needles.size(); n++) {
                    if ((bits & 1 << n) != 0) {
                        all.append(shows(needles.get(n), hour, List.of(lie(p, hour, degree)))).append(' ');
                    }
                }
                unlike.add(all.toString());
            }
            if (unlike.size() == people.size()) {
                best = fewer(best, bits);
            }
        }
        return best;
    }

    private static int fewer(int best, int bits) {
        return best == NONE || Integer.bitCount(bits) < Integer.bitCount(best) ? bits : best;
    }

    int alibi(int p, int degree, int hour) {
        person(p);
        legalLie(degree, hour);
        int bits = 0;
        for (int q = 0; q < people.size(); q++) {
            if (q != p && accused(hour, needles, List.of(lie(q, hour, degree))) == p) {
                bits |= 1 << q;
            }
        }
        return bits;
    }

    private List<Saying> besides(int liars, int hour) {
        List<Saying> all = new ArrayList<>(sayings);
        for (int p = 0; p < people.size(); p++) {
            if ((liars & 1 << p) != 0) {
                all.add(lie(p, hour, 9));
            }
        }
        return all;
    }

    int plan(int bits, int hour, int side) {
        need(isHour(hour));
        legal(bits >= 0 && bits < 1 << needles.size() && side >= 0 && side <= 9);
        int best = NONE;
        for (int liars = 0; liars < 1 << people.size(); liars++) {
            if (Integer.bitCount(liars) <= 3) {
                boolean all = true;
                for (int n = 0; n < needles.size() && all; n++) {
                    all = (bits & 1 << n) == 0 || shows(needles.get(n), hour, besides(liars, hour)) == side;
                }
                best = all ? fewer(best, liars) : best;
            }
        }
        return best;
    }

    // ---- seen

    int see(int n, int hour, int shown) {
        needleThere(n);
        need(isHour(hour));
        if (seen.size() == 8 || shown < -1 || shown > 9) {
            return refused(2);
        }
        seen.add(new Sight(n, hour, shown));
        return seen.size();
    }

    void forget() {
        seen.clear();
    }

    int planted() {
        int bits = 0;
        for (Sight s : seen) {
            bits |= shows(s.needle, s.hour) != s.shown ? 1 << s.needle : 0;
        }
        return bits;
    }

    private boolean allSo(Saying more) {
        List<Saying> all = new ArrayList<>(sayings);
        all.add(more);
        for (Sight s : seen) {
            if (shows(needles.get(s.needle), s.hour, all) != s.shown) {
                return false;
            }
        }
        return true;
    }

    int suspects(int hour) {
        need(isHour(hour));
        int bits = 0;
        for (int p = 0; p < people.size(); p++) {
            for (int degree = 1; degree <= 9; degree++) {
                bits |= allSo(lie(p, hour, degree)) ? 1 << p : 0;
            }
        }
        return bits;
    }

    int spots(int hour, int what) {
        need(isHour(hour) && (what == 0 || what == 1));
        List<Integer> found = new ArrayList<>();
        for (int place = 0; place <= 4040; place++) {
            if (place % 100 <= 40 && allSo(new Saying(hour, 99, new Place(place % 100, place / 100), 0, 9))) {
                found.add(place);
            }
        }
        return what == 0 ? found.size() : found.isEmpty() ? NONE : found.get(0);
    }

    int saucer(int bits, int hour, int what) {
        need(isHour(hour) && (what == 0 || what == 1));
        legal(bits >= 0 && bits < 1 << people.size());
        int most = NONE;
        int where = NONE;
        for (int place = 0; place <= 4040; place++) {
            if (place % 100 <= 40) {
                Needle needle = new Needle(new Place(place % 100, place / 100), 60, 0);
                Set<Integer> things = new HashSet<>();
                for (int p = 0; p < people.size(); p++) {
                    if ((bits & 1 << p) != 0) {
                        things.add(shows(needle, hour, List.of(lie(p, hour, 9))));
                    }
                }
                if (things.size() > most) {
                    most = things.size();
                    where = place;
                }
            }
        }
        return what == 0 ? most : where;
    }

    // ---- games, years

    int game(int one, int other, int hour, int much, int what) {
        person(one);
        person(other);
        need(isHour(hour) && (what == 0 || what == 1));
        legal(one != other && much >= 0 && much <= 99);
        int[][] gains = new int[2][4];
        for (int a = 0; a < 2; a++) {
            for (int b = 0; b < 2; b++) {
                int whom = accused(hour, needles, besides(a << one | b << other, hour));
                gains[0][2 * a + b] = 5 * a - (whom == one ? much : 0);
                gains[1][2 * a + b] = 5 * b - (whom == other ? much : 0);
            }
        }
        List<Integer> resting = new ArrayList<>();
        for (int a = 0; a < 2; a++) {
            for (int b = 0; b < 2; b++) {
                boolean better = gains[0][2 * (1 - a) + b] > gains[0][2 * a + b]
                    || gains[1][2 * a + 1 - b] > gains[1][2 * a + b];
                if (!better) {
                    resting.add(10 * a + b);
                }
            }
        }
        return what == 0 ? resting.size() : resting.isEmpty() ? NONE : resting.get(0);
    }

    int years(int seed, int n, int what) {
        need(what >= 0 && what <= 2);
        legal(n >= 0 && n <= 99);
        int[] found = new int[3];
        List<Saying> all = new ArrayList<>();
        for (int hour = 0; hour < n && !people.isEmpty(); hour++) {
            seed = seed * 1103515245 + 12345;
            int who = (seed >> 16 & 32767) % people.size();
            seed = seed * 1103515245 + 12345;
            int degree = (seed >> 16 & 32767) % 10;
            all.add(lie(who, hour, degree));
            boolean him = accused(hour, needles, all) == who;
            found[0] += degree > 0 && him ? 1 : 0;
            found[1] += degree > 0 ? 1 : 0;
            found[2] += degree == 0 && him ? 1 : 0;
        }
        return found[what];
    }

    // ---- all hours

    int shown(int n, int side) {
        needleThere(n);
        need(side >= -1 && side <= 9);
        int found = 0;
        for (int hour = 0; hour < 100; hour++) {
            found += shows(n, hour) == side ? 1 : 0;
        }
        return found;
    }

    int named(int p, int what) {
        person(p);
        need(what == 0 || what == 1);
        int found = 0;
        for (int hour = 0; hour < 100; hour++) {
            found += what == 0 ? Integer.bitCount(points(p, hour)) : accused(hour) == p ? 1 : 0;
        }
        return found;
    }

    int butFor(int s) {
        need(s >= 0 && s < sayings.size());
        List<Saying> others = new ArrayList<>(sayings);
        others.remove(s);
        int found = 0;
        for (int n = 0; n < needles.size(); n++) {
            for (int hour = 0; hour < 100; hour++) {
                found += shows(n, hour) != shows(needles.get(n), hour, others) ? 1 : 0;
            }
        }
        return found;
    }

    int rusted(int n) {
        needleThere(n);
        for (int rust = 0; rust <= 9; rust++) {
            Needle needle = new Needle(needles.get(n).at, needles.get(n).reach, rust);
            boolean none = true;
            for (Saying s : sayings) {
                none &= !hears(needle, s);
            }
            if (none) {
                return rust;
            }
        }
        return NONE;
    }

    int ears(int degree, int hour) {
        legalLie(degree, hour);
        int best = NONE;
        for (int bits = 0; bits < 1 << needles.size(); bits++) {
            boolean all = true;
            for (int p = 0; p < people.size(); p++) {
                boolean any = false;
                for (int n = 0; n < needles.size(); n++) {
                    any |= (bits & 1 << n) != 0 && hears(needles.get(n), lie(p, hour, degree));
                }
                all &= any;
            }
            best = all ? fewer(best, bits) : best;
        }
        return best;
    }

    int hideouts(int p, int degree, int hour, int what) {
        person(p);
        need(what == 0 || what == 1);
        legalLie(degree, hour);
        List<Integer> found = new ArrayList<>();
        for (int place = 0; place <= 4040; place++) {
            if (place % 100 <= 40) {
                Saying s = new Saying(hour, p, new Place(place % 100, place / 100), people.get(p).skill, degree);
                boolean none = true;
                for (Needle needle : needles) {
                    none &= !hears(needle, s);
                }
                if (none) {
                    found.add(place);
                }
            }
        }
        return what == 0 ? found.size() : found.isEmpty() ? NONE : found.get(0);
    }

    int pardon(int p, int hour) {
        person(p);
        need(isHour(hour));
        int best = NONE;
        for (int bits = 0; bits < 1 << needles.size(); bits++) {
            List<Needle> left = new ArrayList<>();
            for (int n = 0; n < needles.size(); n++) {
                if ((bits & 1 << n) == 0) {
                    left.add(needles.get(n));
                }
            }
            if (accused(hour, left, sayings) != p) {
                best = fewer(best, bits);
            }
        }
        return best;
    }

    int falsely(int n) {
        needleThere(n);
        int found = 0;
        for (int hour = 0; hour < 100; hour++) {
            Set<Integer> at = pointed(n, hour);
            boolean liar = false;
            for (Saying s : sayings) {
                liar |= s.hour <= hour && s.degree > 0 && at.contains(s.who);
            }
            found += !at.isEmpty() && !liar ? 1 : 0;
        }
        return found;
    }

    int truest() {
        int best = NONE;
        for (int n = 0; n < needles.size(); n++) {
            best = best == NONE || worth(n) > worth(best) ? n : best;
        }
        return best;
    }

    int first(int p) {
        person(p);
        for (int hour = 0; hour < 100; hour++) {
            if (accused(hour) == p) {
                return hour;
            }
        }
        return NONE;
    }

    int busiest(int what) {
        need(what == 0 || what == 1);
        int best = NONE;
        int most = 0;
        for (int hour = 1; hour < 100; hour++) {
            int turned = 0;
            for (int n = 0; n < needles.size(); n++) {
                turned += shows(n, hour) != shows(n, hour - 1) ? 1 : 0;
            }
            if (turned > most) {
                most = turned;
                best = hour;
            }
        }
        return what == 0 ? best : most;
    }
}
