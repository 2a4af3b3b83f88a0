import java.util.Arrays;
import java.util.NoSuchElementException;

/**
 * A fair where needles in saucers point at liars. The document (DOC.md) numbers what each call promises; words in
 * capitals below are its terms. Every row that a call needs is made with the object, so that calls make nothing.
 */
public final class SaucerFair {
    public static final int NONE = -1;

    private static final int PEOPLE = 10;
    private static final int NEEDLES = 6;
    private static final int SAYINGS = 16;
    private static final int ACTS = 40;
    private static final int SEEN = 8;
    private static final int HOURS = 100;
    private static final int LAST_HOUR = 99;
    private static final int PLACES = 41;
    private static final int LAST_PLACE = 40;
    private static final int MOST_REACH = 60;
    private static final int NINE = 9;
    private static final int MOST_LOSS = 99;
    private static final int PLANNERS = 3;
    private static final int GAIN = 5;
    private static final int TAPE = 700;
    private static final int FED = 20;
    private static final int FLAT = 8;
    private static final int SPINS = 9;
    private static final int ALL = -1;

    private final Reader reader = new Reader();
    private final Watch watch = new Watch();
    private final Court court = new Court();
    private final Acts acts = new Acts();
    private final Seen seen = new Seen();
    private final Sayings keptSayings = new Sayings();
    private final Needles keptNeedles = new Needles();
    private final Acts keptActs = new Acts();
    private final Seen keptSeen = new Seen();
    private final int[] spareRow = new int[HOURS];
    private final int[] spareLasts = new int[HOURS];
    private final int[] couples = new int[4];
    private final long[] fars = new long[PEOPLE];
    private boolean imageKept;
    private int faultPlace = NONE;
    private int faultyTexts;
    private int refusedActs;
    private int refusedSeen;

    public SaucerFair() {
    }

    // ---- the text

    public int feed(int a, int b, int c, int d, int e) {
        if (reader.length + FED > TAPE) {
            return NONE;
        }
        reader.put(a);
        reader.put(b);
        reader.put(c);
        reader.put(d);
        reader.put(e);
        return reader.length;
    }

    public int fair(int n) throws IllegalArgumentException {
        if (n < 0 || n > reader.length) {
            throw new IllegalArgumentException("the tape has not so many bytes");
        }
        int fault = reader.read(n);
        faultPlace = fault == 0 ? NONE : reader.faultPlace;
        if (fault != 0) {
            faultyTexts++;
            return fault;
        }
        Fair before = watch.fair;
        watch.fair = reader.draft;
        reader.draft = before;
        acts.count = 0;
        seen.count = 0;
        imageKept = false;
        watch.refresh();
        return 0;
    }

    public int fault() {
        return faultPlace;
    }

    // ---- what there is

    public int count(int what) throws NoSuchElementException {
        needWhat(what, 11);
        Fair fair = watch.fair;
        switch (what) {
            case 0:
                return fair.people.count;
            case 1:
                return fair.needles.count;
            case 2:
                return fair.sayings.count;
            case 3:
                return fair.sayings.lies();
            case 4:
                return acts.count;
            case 5:
                return seen.count;
            case 6:
                return reader.length;
            case 7:
                return faultyTexts;
            case 8:
                return refusedActs;
            case 9:
                return refusedSeen;
            case 10:
                return fair.sayings.latest();
            default:
                return fair.sayings.mostLies();
        }
    }

    public int one(int person, int what) throws NoSuchElementException {
        needPerson(person);
        needWhat(what, 4);
        People people = watch.fair.people;
        switch (what) {
            case 0:
                return people.x[person];
            case 1:
                return people.y[person];
            case 2:
                return people.skill[person];
            case 3:
                return watch.fair.sayings.saidBy(person);
            default:
                return watch.inReach(person);
        }
    }

    public int needle(int needle, int what) throws NoSuchElementException {
        needNeedle(needle);
        needWhat(what, 6);
        Needles needles = watch.fair.needles;
        switch (what) {
            case 0:
                return needles.x[needle];
            case 1:
                return needles.y[needle];
            case 2:
                return needles.reach[needle];
            case 3:
                return needles.rust[needle];
            case 4:
                return watch.heard[needle];
            case 5:
                return watch.quivers(needle);
            default:
                return watch.worth(needle);
        }
    }

    public int saying(int saying, int what) throws NoSuchElementException {
        needSaying(saying);
        needWhat(what, 3);
        Sayings sayings = watch.fair.sayings;
        switch (what) {
            case 0:
                return sayings.hour[saying];
            case 1:
                return sayings.who[saying];
            case 2:
                return sayings.degree[saying];
            default:
                return watch.hearersOf(saying);
        }
    }

    // ---- what is shown, and whom that points at

    public int shows(int needle, int hour) throws NoSuchElementException {
        needNeedle(needle);
        needHour(hour);
        return watch.rows[needle][hour];
    }

    public int last(int needle, int hour) throws NoSuchElementException {
        needNeedle(needle);
        needHour(hour);
        return watch.lasts[needle][hour];
    }

    public int points(int person, int hour) throws NoSuchElementException {
        needPerson(person);
        needHour(hour);
        return watch.pointersAt(person, hour);
    }

    public int side(int a, int b) {
        return sideOf(a, b);
    }

    public int accused(int hour) throws NoSuchElementException {
        needHour(hour);
        return accusedIn(hour);
    }

    // ---- acts

    public int tell(int hour, int person, int degree) throws NoSuchElementException {
        needPerson(person);
        Sayings sayings = watch.fair.sayings;
        if (sayings.count >= SAYINGS || !isHour(hour) || degree < 0 || degree > NINE) {
            refusedActs++;
            return NONE;
        }
        sayings.add(hour, person, degree);
        acts.keep(Acts.TOLD, 0, 0, 0);
        watch.refresh();
        return sayings.count - 1;
    }

    public int back() {
        Sayings sayings = watch.fair.sayings;
        int end = sayings.count - 1;
        if (end < 0) {
            refusedActs++;
            return NONE;
        }
        acts.keep(Acts.BACK, sayings.hour[end], sayings.who[end], sayings.degree[end]);
        sayings.dropLast();
        watch.refresh();
        return end;
    }

    public int rust(int needle, int rust) throws NoSuchElementException {
        needNeedle(needle);
        if (rust < 0 || rust > NINE) {
            refusedActs++;
            return NONE;
        }
        Needles needles = watch.fair.needles;
        int before = needles.rust[needle];
        acts.keep(Acts.RUSTED, needle, before, 0);
        needles.setRust(needle, rust);
        watch.refresh();
        return before;
    }

    public int carry(int needle, int x, int y) throws NoSuchElementException {
        needNeedle(needle);
        if (x < 0 || x > LAST_PLACE || y < 0 || y > LAST_PLACE) {
            refusedActs++;
            return NONE;
        }
        Needles needles = watch.fair.needles;
        int oldX = needles.x[needle];
        int oldY = needles.y[needle];
        acts.keep(Acts.CARRIED, needle, oldX, oldY);
        needles.setPlace(needle, x, y);
        watch.refresh();
        return placeNumber(oldX, oldY);
    }

    public int undo() {
        if (acts.count == 0) {
            return NONE;
        }
        acts.revertLast(watch.fair);
        watch.refresh();
        return acts.count;
    }

    public int clash() {
        for (int hour = 0; hour < HOURS; hour++) {
            if (watch.clashesIn(hour)) {
                return hour;
            }
        }
        return NONE;
    }

    // ---- one lie alone

    public int just(int degree, int hour, int what) throws NoSuchElementException, IllegalArgumentException {
        needWhat(what, 2);
        needLie(degree, hour);
        int found = 0;
        for (int liar = 0; liar < watch.fair.people.count; liar++) {
            int whom = accusedAlone(liar, degree, hour);
            int kind = whom == liar ? 0 : whom == NONE ? 2 : 1;
            if (kind == what) {
                found++;
            }
        }
        return found;
    }

    public int apart(int degree, int hour) throws IllegalArgumentException {
        needLie(degree, hour);
        watch.noteLies(degree, hour);
        int needles = watch.fair.needles.count;
        int bits = 0;
        for (int i = 0; i < 1 << needles; i++) {
            if (watch.tellsApart(bits)) {
                return bits;
            }
            bits = nextChoice(bits, needles);
        }
        return NONE;
    }

    public int alibi(int person, int degree, int hour) throws NoSuchElementException, IllegalArgumentException {
        needPerson(person);
        needLie(degree, hour);
        int bits = 0;
        for (int liar = 0; liar < watch.fair.people.count; liar++) {
            if (liar != person && accusedAlone(liar, degree, hour) == person) {
                bits |= 1 << liar;
            }
        }
        return bits;
    }

    public int plan(int needles, int hour, int side) throws NoSuchElementException, IllegalArgumentException {
        needHour(hour);
        needBits(needles, watch.fair.needles.count);
        if (side < 0 || side > SPINS) {
            throw new IllegalArgumentException("no such side");
        }
        watch.noteLies(NINE, hour);
        watch.noteSums(hour);
        int people = watch.fair.people.count;
        int bits = 0;
        for (int i = 0; i < 1 << people && Integer.bitCount(bits) <= PLANNERS; i++) {
            if (watch.allShow(needles, hour, bits, side)) {
                return bits;
            }
            bits = nextChoice(bits, people);
        }
        return NONE;
    }

    // ---- what is seen

    public int see(int needle, int hour, int shown) throws NoSuchElementException {
        needNeedle(needle);
        needHour(hour);
        if (seen.count >= SEEN || shown < NONE || shown > SPINS) {
            refusedSeen++;
            return NONE;
        }
        seen.add(needle, hour, shown);
        return seen.count;
    }

    public void forget() {
        seen.count = 0;
    }

    public int planted() {
        int bits = 0;
        for (int i = 0; i < seen.count; i++) {
            int needle = seen.needle[i];
            if (watch.rows[needle][seen.hour[i]] != seen.shown[i]) {
                bits |= 1 << needle;
            }
        }
        return bits;
    }

    public int suspects(int hour) throws NoSuchElementException {
        needHour(hour);
        watch.noteSums(hour);
        int bits = 0;
        for (int person = 0; person < watch.fair.people.count; person++) {
            if (isSuspect(person, hour)) {
                bits |= 1 << person;
            }
        }
        return bits;
    }

    public int spots(int hour, int what) throws NoSuchElementException {
        needHour(hour);
        needWhat(what, 1);
        Needles needles = watch.fair.needles;
        for (int n = 0; n < needles.count; n++) {
            fars[n] = watch.farsHeard(NINE, 0, needles.reach[n], needles.rust[n], hour);
        }
        watch.noteSums(hour);
        int found = 0;
        for (int y = 0; y < PLACES; y++) {
            for (int x = 0; x < PLACES; x++) {
                if (seenHolds(hour, x, y, hearersFrom(x, y))) {
                    if (what == 1) {
                        return placeNumber(x, y);
                    }
                    found++;
                }
            }
        }
        return what == 1 ? NONE : found;
    }

    public int saucer(int people, int hour, int what) throws NoSuchElementException, IllegalArgumentException {
        needHour(hour);
        needWhat(what, 1);
        needBits(people, watch.fair.people.count);
        for (int p = 0; p < watch.fair.people.count; p++) {
            fars[p] = watch.farsHeard(NINE, watch.fair.people.skill[p], MOST_REACH, 0, hour);
        }
        int most = NONE;
        int where = 0;
        for (int y = 0; y < PLACES; y++) {
            for (int x = 0; x < PLACES; x++) {
                int unlike = unlikeThings(people, x, y);
                if (unlike > most) {
                    most = unlike;
                    where = placeNumber(x, y);
                }
            }
        }
        return what == 1 ? where : most;
    }

    // ---- games and years

    public int game(int one, int other, int hour, int much, int what)
            throws NoSuchElementException, IllegalArgumentException {
        needPerson(one);
        needPerson(other);
        needHour(hour);
        needWhat(what, 1);
        if (one == other || much < 0 || much > MOST_LOSS) {
            throw new IllegalArgumentException("two of the people, and a loss of 0 to 99");
        }
        judgeCouples(one, other, hour);
        int found = 0;
        for (int couple = 0; couple < 4; couple++) {
            if (rests(couple, one, other, much)) {
                if (what == 1) {
                    return 10 * (couple >> 1) + (couple & 1);
                }
                found++;
            }
        }
        return what == 1 ? NONE : found;
    }

    public int years(int seed, int n, int what) throws NoSuchElementException, IllegalArgumentException {
        needWhat(what, 2);
        if (n < 0 || n > LAST_HOUR) {
            throw new IllegalArgumentException("0 to 99 hours");
        }
        int people = watch.fair.people.count;
        if (people == 0) {
            return 0;
        }
        court.silence();
        int state = seed;
        int found = 0;
        for (int hour = 0; hour < n; hour++) {
            state = nextSeed(state);
            int who = draw(state, people);
            state = nextSeed(state);
            int degree = draw(state, 10);
            court.hearOne(watch, who, degree, hour);
            boolean him = court.accuse(watch, hour, ALL) == who;
            boolean lie = degree > 0;
            if (what == 1 ? lie : him && lie == (what == 0)) {
                found++;
            }
        }
        return found;
    }

    // ---- all hours together

    public int shown(int needle, int side) throws NoSuchElementException {
        needNeedle(needle);
        if (side < NONE || side > SPINS) {
            throw new NoSuchElementException("no such side");
        }
        int found = 0;
        for (int hour = 0; hour < HOURS; hour++) {
            if (watch.rows[needle][hour] == side) {
                found++;
            }
        }
        return found;
    }

    public int named(int person, int what) throws NoSuchElementException {
        needPerson(person);
        needWhat(what, 1);
        int found = 0;
        for (int hour = 0; hour < HOURS; hour++) {
            if (what == 0) {
                found += Integer.bitCount(watch.pointersAt(person, hour));
            } else if (accusedIn(hour) == person) {
                found++;
            }
        }
        return found;
    }

    public int butFor(int saying) throws NoSuchElementException {
        needSaying(saying);
        int found = 0;
        for (int n = 0; n < watch.fair.needles.count; n++) {
            watch.fillRow(n, watch.heard[n] & ~(1 << saying), spareRow, spareLasts);
            for (int hour = 0; hour < HOURS; hour++) {
                if (spareRow[hour] != watch.rows[n][hour]) {
                    found++;
                }
            }
        }
        return found;
    }

    public int rusted(int needle) throws NoSuchElementException {
        needNeedle(needle);
        for (int rust = 0; rust <= NINE; rust++) {
            if (watch.heardWithRust(needle, rust) == 0) {
                return rust;
            }
        }
        return NONE;
    }

    public int ears(int degree, int hour) throws IllegalArgumentException {
        needLie(degree, hour);
        watch.noteLies(degree, hour);
        int needles = watch.fair.needles.count;
        int bits = 0;
        for (int i = 0; i < 1 << needles; i++) {
            if (watch.hearAll(bits)) {
                return bits;
            }
            bits = nextChoice(bits, needles);
        }
        return NONE;
    }

    public int hideouts(int person, int degree, int hour, int what)
            throws NoSuchElementException, IllegalArgumentException {
        needPerson(person);
        needWhat(what, 1);
        needLie(degree, hour);
        Needles needles = watch.fair.needles;
        for (int n = 0; n < needles.count; n++) {
            int skill = watch.fair.people.skill[person];
            fars[n] = watch.farsHeard(degree, skill, needles.reach[n], needles.rust[n], hour);
        }
        int found = 0;
        for (int y = 0; y < PLACES; y++) {
            for (int x = 0; x < PLACES; x++) {
                if (hearersFrom(x, y) == 0) {
                    if (what == 1) {
                        return placeNumber(x, y);
                    }
                    found++;
                }
            }
        }
        return what == 1 ? NONE : found;
    }

    public int pardon(int person, int hour) throws NoSuchElementException {
        needPerson(person);
        needHour(hour);
        court.hearAll(watch, hour);
        int needles = watch.fair.needles.count;
        int bits = 0;
        for (int i = 0; i < 1 << needles; i++) {
            if (court.accuse(watch, hour, ~bits) != person) {
                return bits;
            }
            bits = nextChoice(bits, needles);
        }
        return NONE;
    }

    public int falsely(int needle) throws NoSuchElementException {
        needNeedle(needle);
        int liars = 0;
        int found = 0;
        for (int hour = 0; hour < HOURS; hour++) {
            liars |= watch.liarsIn(hour);
            int pointed = watch.pointedBy(needle, hour);
            if (pointed != 0 && (pointed & liars) == 0) {
                found++;
            }
        }
        return found;
    }

    public int truest() {
        int best = NONE;
        int most = 0;
        for (int n = 0; n < watch.fair.needles.count; n++) {
            int worth = watch.worth(n);
            if (best == NONE || worth > most) {
                best = n;
                most = worth;
            }
        }
        return best;
    }

    public int first(int person) throws NoSuchElementException {
        needPerson(person);
        for (int hour = 0; hour < HOURS; hour++) {
            if (accusedIn(hour) == person) {
                return hour;
            }
        }
        return NONE;
    }

    public int busiest(int what) throws NoSuchElementException {
        needWhat(what, 1);
        int best = NONE;
        int most = 0;
        for (int hour = 1; hour < HOURS; hour++) {
            int turned = watch.turnedIn(hour);
            if (turned > most) {
                best = hour;
                most = turned;
            }
        }
        return what == 0 ? best : most;
    }

    // ---- the image

    public void image() {
        imageKept = true;
        keptSayings.copyFrom(watch.fair.sayings);
        keptNeedles.copyFrom(watch.fair.needles);
        keptActs.copyFrom(acts);
        keptSeen.copyFrom(seen);
    }

    public boolean restore() {
        if (!imageKept) {
            return false;
        }
        watch.fair.sayings.copyFrom(keptSayings);
        watch.fair.needles.copyFrom(keptNeedles);
        acts.copyFrom(keptActs);
        seen.copyFrom(keptSeen);
        watch.refresh();
        return true;
    }

    // ---- what the calls above share

    private void needPerson(int person) {
        if (person < 0 || person >= watch.fair.people.count) {
            throw new NoSuchElementException("no such person");
        }
    }

    private void needNeedle(int needle) {
        if (needle < 0 || needle >= watch.fair.needles.count) {
            throw new NoSuchElementException("no such needle");
        }
    }

    private void needSaying(int saying) {
        if (saying < 0 || saying >= watch.fair.sayings.count) {
            throw new NoSuchElementException("no such saying");
        }
    }

    private static void needHour(int hour) {
        if (!isHour(hour)) {
            throw new NoSuchElementException("no such hour");
        }
    }

    private static void needWhat(int what, int most) {
        if (what < 0 || what > most) {
            throw new NoSuchElementException("no such what");
        }
    }

    private static void needLie(int degree, int hour) {
        if (degree < 1 || degree > NINE || !isHour(hour)) {
            throw new IllegalArgumentException("a lie of degree 1 to 9 in an hour 0 to 99");
        }
    }

    private static void needBits(int bits, int members) {
        if ((bits & ~((1 << members) - 1)) != 0) {
            throw new IllegalArgumentException("bits of what is not there");
        }
    }

    private static boolean isHour(int hour) {
        return hour >= 0 && hour < HOURS;
    }

    private static int placeNumber(int x, int y) {
        return 100 * y + x;
    }

    private static int farOf(int a, int b) {
        return Math.max(Math.abs(a), Math.abs(b));
    }

    /** The SIDE of a way, FLAT for none; over long, as an int's lowest number has no opposite. */
    private static int sideOf(long a, long b) {
        long wide = Math.abs(a);
        long high = Math.abs(b);
        if (wide == 0 && high == 0) {
            return FLAT;
        }
        if (wide > 2 * high) {
            return a > 0 ? 2 : 6;
        }
        if (high > 2 * wide) {
            return b > 0 ? 4 : 0;
        }
        if (a > 0) {
            return b > 0 ? 3 : 1;
        }
        return b > 0 ? 5 : 7;
    }

    /** The next choice, by how many it has, then as a number: the fewest come first, of these the least. */
    private static int nextChoice(int bits, int members) {
        int low = bits & -bits;
        if (low == 0) {
            return 1;
        }
        int up = bits + low;
        int next = up | ((up ^ bits) >>> 2) / low;
        return next < 1 << members ? next : (1 << (Integer.bitCount(bits) + 1)) - 1;
    }

    private static int nextSeed(int state) {
        return state * 1103515245 + 12345;
    }

    private static int draw(int state, int n) {
        return n > 0 ? ((state >>> 16) & 0x7fff) % n : 0;
    }

    private int accusedIn(int hour) {
        court.hearAll(watch, hour);
        return court.accuse(watch, hour, ALL);
    }

    private int accusedAlone(int liar, int degree, int hour) {
        court.silence();
        court.hearOne(watch, liar, degree, hour);
        return court.accuse(watch, hour, ALL);
    }

    private boolean isSuspect(int person, int hour) {
        int x = watch.fair.people.x[person];
        int y = watch.fair.people.y[person];
        for (int degree = 1; degree <= NINE; degree++) {
            if (seenHolds(hour, x, y, watch.hearersOfLie(person, degree, hour))) {
                return true;
            }
        }
        return false;
    }

    /** Whether all that is SEEN would be so by one lie more, told at this place and HEARD by these NEEDLES. */
    private boolean seenHolds(int hour, int x, int y, int hearers) {
        for (int i = 0; i < seen.count; i++) {
            int needle = seen.needle[i];
            boolean hears = (hearers >> needle & 1) != 0;
            int shown = hears ? watch.shownBesides(needle, seen.hour[i], hour, x, y) : watch.rows[needle][seen.hour[i]];
            if (shown != seen.shown[i]) {
                return false;
            }
        }
        return true;
    }

    /** NEEDLES that HEAR a lie from this place, by the distances that stand in fars. */
    private int hearersFrom(int x, int y) {
        Needles needles = watch.fair.needles;
        int bits = 0;
        for (int n = 0; n < needles.count; n++) {
            int far = farOf(x - needles.x[n], y - needles.y[n]);
            if ((fars[n] >> far & 1) != 0) {
                bits |= 1 << n;
            }
        }
        return bits;
    }

    private int unlikeThings(int liars, int x, int y) {
        People people = watch.fair.people;
        int things = 0;
        for (int p = 0; p < people.count; p++) {
            if ((liars >> p & 1) != 0) {
                int a = people.x[p] - x;
                int b = people.y[p] - y;
                boolean hears = (fars[p] >> farOf(a, b) & 1) != 0;
                things |= hears ? 2 << sideOf(a, b) : 1;
            }
        }
        return Integer.bitCount(things);
    }

    private void judgeCouples(int one, int other, int hour) {
        watch.noteLies(NINE, hour);
        watch.noteSums(hour);
        for (int couple = 0; couple < 4; couple++) {
            court.hearBesides(watch, hour, (couple >> 1) << one | (couple & 1) << other);
            couples[couple] = court.accuse(watch, hour, ALL);
        }
    }

    private boolean rests(int couple, int one, int other, int much) {
        int first = couple >> 1;
        int second = couple & 1;
        return gain(first, couple, one, much) >= gain(1 - first, couple ^ 2, one, much)
                && gain(second, couple, other, much) >= gain(1 - second, couple ^ 1, other, much);
    }

    private int gain(int choice, int couple, int person, int much) {
        return GAIN * choice - (couples[couple] == person ? much : 0);
    }

    // ---- what a fair holds

    private static final class People {
        int count;
        final int[] x = new int[PEOPLE];
        final int[] y = new int[PEOPLE];
        final int[] skill = new int[PEOPLE];

        void add(int a, int b, int able) {
            if (count < PEOPLE) {
                x[count] = a;
                y[count] = b;
                skill[count] = able;
                count++;
            }
        }
    }

    private static final class Needles {
        int count;
        final int[] x = new int[NEEDLES];
        final int[] y = new int[NEEDLES];
        final int[] reach = new int[NEEDLES];
        final int[] rust = new int[NEEDLES];

        void add(int a, int b, int far, int rusty) {
            if (count < NEEDLES) {
                x[count] = a;
                y[count] = b;
                reach[count] = far;
                rust[count] = rusty;
                count++;
            }
        }

        void setRust(int needle, int rusty) {
            if (needle >= 0 && needle < count) {
                rust[needle] = rusty;
            }
        }

        void setPlace(int needle, int a, int b) {
            if (needle >= 0 && needle < count) {
                x[needle] = a;
                y[needle] = b;
            }
        }

        void copyFrom(Needles from) {
            count = from.count;
            System.arraycopy(from.x, 0, x, 0, NEEDLES);
            System.arraycopy(from.y, 0, y, 0, NEEDLES);
            System.arraycopy(from.reach, 0, reach, 0, NEEDLES);
            System.arraycopy(from.rust, 0, rust, 0, NEEDLES);
        }
    }

    private static final class Sayings {
        int count;
        final int[] hour = new int[SAYINGS];
        final int[] who = new int[SAYINGS];
        final int[] degree = new int[SAYINGS];

        void add(int when, int person, int much) {
            if (count < SAYINGS) {
                hour[count] = when;
                who[count] = person;
                degree[count] = much;
                count++;
            }
        }

        void dropLast() {
            if (count > 0) {
                count--;
            }
        }

        void copyFrom(Sayings from) {
            count = from.count;
            System.arraycopy(from.hour, 0, hour, 0, SAYINGS);
            System.arraycopy(from.who, 0, who, 0, SAYINGS);
            System.arraycopy(from.degree, 0, degree, 0, SAYINGS);
        }

        int lies() {
            int found = 0;
            for (int s = 0; s < count; s++) {
                if (degree[s] > 0) {
                    found++;
                }
            }
            return found;
        }

        int latest() {
            int found = NONE;
            for (int s = 0; s < count; s++) {
                found = Math.max(found, hour[s]);
            }
            return found;
        }

        int mostLies() {
            int most = 0;
            for (int s = 0; s < count; s++) {
                int found = 0;
                for (int t = 0; t < count; t++) {
                    if (hour[t] == hour[s] && degree[t] > 0) {
                        found++;
                    }
                }
                most = Math.max(most, found);
            }
            return most;
        }

        int saidBy(int person) {
            int bits = 0;
            for (int s = 0; s < count; s++) {
                if (who[s] == person) {
                    bits |= 1 << s;
                }
            }
            return bits;
        }
    }

    /** An EXPR as a row of steps over a stack: numbers 0 and up, VALUES -1 - index, operators from OR down. */
    private static final class Rule {
        static final int OR = -11;
        static final int AND = -12;
        static final int LESS = -13;
        static final int EQUAL = -14;
        static final int PLUS = -15;
        static final int MINUS = -16;
        static final int TIMES = -17;
        static final int OVER = -18;
        static final int NOT = -19;
        // Six EXPRS one within another leave at most five left sides waiting in each.
        static final int DEPTH = 40;

        int length;
        final int[] steps = new int[TAPE];
        final int[] stack = new int[DEPTH];

        void add(int step) {
            if (length < TAPE) {
                steps[length] = step;
                length++;
            }
        }

        int run(int[] values) {
            int top = 0;
            for (int i = 0; i < length; i++) {
                int step = steps[i];
                if (step > OR && top < DEPTH) {
                    stack[top] = step >= 0 ? step : valueAt(values, -1 - step);
                    top++;
                } else if (step == NOT && top > 0) {
                    stack[top - 1] = stack[top - 1] == 0 ? 1 : 0;
                } else if (top > 1) {
                    top--;
                    stack[top - 1] = join(step, stack[top - 1], stack[top]);
                }
            }
            return top > 0 ? stack[0] : 0;
        }

        private static int valueAt(int[] values, int index) {
            return index >= 0 && index < values.length ? values[index] : 0;
        }

        private static int join(int operator, int a, int b) {
            switch (operator) {
                case OR:
                    return a != 0 || b != 0 ? 1 : 0;
                case AND:
                    return a != 0 && b != 0 ? 1 : 0;
                case LESS:
                    return a < b ? 1 : 0;
                case EQUAL:
                    return a == b ? 1 : 0;
                case PLUS:
                    return a + b;
                case MINUS:
                    return a - b;
                case TIMES:
                    return a * b;
                default:
                    return b == 0 ? 0 : a / b;
            }
        }
    }

    private static final class Fair {
        final People people = new People();
        final Needles needles = new Needles();
        final Sayings sayings = new Sayings();
        final Rule turns = new Rule();
        final Rule court = new Rule();

        void empty() {
            people.count = 0;
            needles.count = 0;
            sayings.count = 0;
            turns.length = 0;
            court.length = 0;
        }
    }

    // ---- reading a text

    /** The tape, and the reading of a FAIR from it into a draft; each reading method is false behind a FAULT. */
    private static final class Reader {
        static final int END = 0;
        static final int WORD = 1;
        static final int NUMBER = 2;
        static final int BLANK = 3;
        static final int NO_TOKEN = 4;
        static final int DIGITS = 4;
        static final int MOST_NUMBER = 9999;
        static final int NESTED = 6;
        static final int NOTS = 6;

        final byte[] tape = new byte[TAPE];
        int length;
        Fair draft = new Fair();
        int fault;
        int faultPlace;
        private int end;
        private int next;
        private int start;
        private int kind;
        private int number;

        void put(int four) {
            for (int shift = 24; shift >= 0 && length < TAPE; shift -= 8) {
                tape[length] = (byte) (four >> shift);
                length++;
            }
        }

        /** Reads the first n bytes and empties the tape: 0, or the FAULT. */
        int read(int n) {
            end = Math.max(0, Math.min(n, length));
            length = 0;
            next = 0;
            fault = 0;
            faultPlace = NONE;
            draft.empty();
            advance();
            boolean fine = true;
            for (int i = 0; i < TAPE && fine && kind != END; i++) {
                fine = readLine();
            }
            return fault;
        }

        private boolean refuse(int what) {
            fault = what;
            faultPlace = start;
            return false;
        }

        /** The next TOKEN: words and NUMBERS go on as long as their kind does, a sign is one alone. */
        private void advance() {
            while (next < end && kindOf(tape[next]) == BLANK) {
                next++;
            }
            start = next;
            kind = next < end ? kindOf(tape[next]) : END;
            number = 0;
            if (kind == WORD || kind == NUMBER) {
                while (next < end && kindOf(tape[next]) == kind) {
                    if (kind == NUMBER && next - start < DIGITS) {
                        number = number * 10 + tape[next] - '0';
                    }
                    next++;
                }
            } else if (kind != END) {
                next++;
            }
        }

        /** The kind of TOKEN to which a byte belongs; a sign's is the sign itself. */
        private static int kindOf(int sign) {
            if (sign == ' ' || sign == '\n') {
                return BLANK;
            }
            if (sign >= 'a' && sign <= 'z') {
                return WORD;
            }
            if (sign >= '0' && sign <= '9') {
                return NUMBER;
            }
            boolean known = sign >= '(' && sign <= '+' || sign == '-' || sign == '/' || sign >= ';' && sign <= '=';
            return known ? sign : NO_TOKEN;
        }

        private boolean isWord(String word) {
            if (kind != WORD || next - start != word.length()) {
                return false;
            }
            for (int i = 0; i < word.length(); i++) {
                if (tape[start + i] != word.charAt(i)) {
                    return false;
                }
            }
            return true;
        }

        private boolean readLine() {
            if (isWord("one")) {
                return readPerson();
            }
            if (isWord("needle")) {
                return readNeedle();
            }
            if (isWord("says")) {
                return readSaying();
            }
            if (isWord("turns")) {
                return readRule(draft.turns);
            }
            if (isWord("court")) {
                return readRule(draft.court);
            }
            return refuse(1);
        }

        private boolean readPerson() {
            People people = draft.people;
            if (people.count >= PEOPLE) {
                return refuse(2);
            }
            advance();
            if (!isNumber(0, LAST_PLACE)) {
                return false;
            }
            int x = taken();
            if (!isFreePlace(people.x, people.y, people.count, x)) {
                return false;
            }
            int y = taken();
            if (!isNumber(0, NINE)) {
                return false;
            }
            people.add(x, y, taken());
            return readSign(';');
        }

        private boolean readNeedle() {
            Needles needles = draft.needles;
            if (needles.count >= NEEDLES) {
                return refuse(2);
            }
            advance();
            if (!isNumber(0, LAST_PLACE)) {
                return false;
            }
            int x = taken();
            if (!isFreePlace(needles.x, needles.y, needles.count, x)) {
                return false;
            }
            int y = taken();
            if (!isNumber(1, MOST_REACH)) {
                return false;
            }
            int reach = taken();
            if (!isNumber(0, NINE)) {
                return false;
            }
            needles.add(x, y, reach, taken());
            return readSign(';');
        }

        private boolean readSaying() {
            Sayings sayings = draft.sayings;
            if (sayings.count >= SAYINGS) {
                return refuse(2);
            }
            advance();
            if (!isNumber(0, LAST_HOUR)) {
                return false;
            }
            int hour = taken();
            if (!isNumber(0, MOST_NUMBER)) {
                return false;
            }
            if (number >= draft.people.count) {
                return refuse(3);
            }
            int person = taken();
            if (!isNumber(0, NINE)) {
                return false;
            }
            sayings.add(hour, person, taken());
            return readSign(';');
        }

        private boolean readRule(Rule rule) {
            if (rule.length > 0) {
                return refuse(5);
            }
            advance();
            return readExpr(rule, 0) && readSign(';');
        }

        /** Whether the TOKEN is a NUMBER within these bounds. */
        private boolean isNumber(int least, int most) {
            if (kind != NUMBER) {
                return refuse(1);
            }
            if (next - start > DIGITS || number < least || number > most) {
                return refuse(2);
            }
            return true;
        }

        /** Whether the TOKEN is a Y at which, with this X, none of these stands. */
        private boolean isFreePlace(int[] xs, int[] ys, int count, int x) {
            if (!isNumber(0, LAST_PLACE)) {
                return false;
            }
            for (int i = 0; i < count && i < xs.length && i < ys.length; i++) {
                if (xs[i] == x && ys[i] == number) {
                    return refuse(4);
                }
            }
            return true;
        }

        private int taken() {
            int value = number;
            advance();
            return value;
        }

        private boolean readSign(int sign) {
            if (kind != sign) {
                return refuse(1);
            }
            advance();
            return true;
        }

        private boolean readExpr(Rule rule, int within) {
            if (within >= NESTED) {
                return refuse(kind == NUMBER || kind == WORD || kind == '(' ? 2 : 1);
            }
            boolean fine = readAnd(rule, within);
            for (int i = 0; i < TAPE && fine && isWord("or"); i++) {
                advance();
                fine = readAnd(rule, within);
                rule.add(Rule.OR);
            }
            return fine;
        }

        private boolean readAnd(Rule rule, int within) {
            boolean fine = readNot(rule, within);
            for (int i = 0; i < TAPE && fine && isWord("and"); i++) {
                advance();
                fine = readNot(rule, within);
                rule.add(Rule.AND);
            }
            return fine;
        }

        private boolean readNot(Rule rule, int within) {
            int nots = 0;
            for (int i = 0; i < TAPE && isWord("not"); i++) {
                if (nots >= NOTS) {
                    return refuse(2);
                }
                nots++;
                advance();
            }
            boolean fine = readTest(rule, within);
            for (int i = 0; i < nots; i++) {
                rule.add(Rule.NOT);
            }
            return fine;
        }

        private boolean readTest(Rule rule, int within) {
            if (!readSum(rule, within)) {
                return false;
            }
            if (kind != '<' && kind != '=') {
                return true;
            }
            int operator = kind == '<' ? Rule.LESS : Rule.EQUAL;
            advance();
            boolean fine = readSum(rule, within);
            rule.add(operator);
            return fine;
        }

        private boolean readSum(Rule rule, int within) {
            boolean fine = readProduct(rule, within);
            for (int i = 0; i < TAPE && fine && (kind == '+' || kind == '-'); i++) {
                int operator = kind == '+' ? Rule.PLUS : Rule.MINUS;
                advance();
                fine = readProduct(rule, within);
                rule.add(operator);
            }
            return fine;
        }

        private boolean readProduct(Rule rule, int within) {
            boolean fine = readPart(rule, within);
            for (int i = 0; i < TAPE && fine && (kind == '*' || kind == '/'); i++) {
                int operator = kind == '*' ? Rule.TIMES : Rule.OVER;
                advance();
                fine = readPart(rule, within);
                rule.add(operator);
            }
            return fine;
        }

        private boolean readPart(Rule rule, int within) {
            if (kind == '(') {
                advance();
                return readExpr(rule, within + 1) && readSign(')');
            }
            if (kind == WORD) {
                int value = rule == draft.turns ? turnsValue() : courtValue();
                if (value == NONE) {
                    return refuse(3);
                }
                rule.add(-1 - value);
                advance();
                return true;
            }
            if (!isNumber(0, MOST_NUMBER)) {
                return false;
            }
            rule.add(taken());
            return true;
        }

        private int turnsValue() {
            return isWord("degree") ? Watch.DEGREE
                    : isWord("skill") ? Watch.SKILL
                    : isWord("far") ? Watch.FAR
                    : isWord("reach") ? Watch.REACH
                    : isWord("rust") ? Watch.RUST
                    : isWord("hour") ? Watch.HOUR
                    : NONE;
        }

        private int courtValue() {
            return isWord("points") ? Court.POINTS
                    : isWord("flat") ? Court.LYING
                    : isWord("skill") ? Court.SKILL
                    : isWord("said") ? Court.SAID
                    : isWord("hour") ? Court.HOUR
                    : NONE;
        }
    }

    // ---- what follows from a fair

    /** A sum of ways, and what a NEEDLE SHOWS by it. */
    private static final class Way {
        int x;
        int y;
        boolean moved;

        void clear() {
            x = 0;
            y = 0;
            moved = false;
        }

        void copyFrom(Way from) {
            x = from.x;
            y = from.y;
            moved = from.moved;
        }

        void add(int a, int b) {
            x += a;
            y += b;
            moved = moved || a != 0 || b != 0;
        }

        int sign() {
            if (!moved) {
                return FLAT;
            }
            return x == 0 && y == 0 ? SPINS : sideOf(x, y);
        }
    }

    /** What the NEEDLES of a FAIR HEAR and SHOW; refresh follows every change, the other methods ask. */
    private static final class Watch {
        static final int DEGREE = 0;
        static final int SKILL = 1;
        static final int FAR = 2;
        static final int REACH = 3;
        static final int RUST = 4;
        static final int HOUR = 5;

        Fair fair = new Fair();
        final int[] heard = new int[NEEDLES];
        final int[][] rows = new int[NEEDLES][HOURS];
        final int[][] lasts = new int[NEEDLES][HOURS];
        // The SIDE from each NEEDLE to each of PEOPLE; FLAT at its place: what his lie alone lets it SHOW.
        final int[][] sides = new int[NEEDLES][PEOPLE];
        private final int[] saidIn = new int[HOURS];
        private final int[] lieHearers = new int[PEOPLE];
        private final Way[] sums = new Way[NEEDLES];
        private final Way sum = new Way();
        private final int[] values = new int[6];

        Watch() {
            for (int n = 0; n < NEEDLES; n++) {
                sums[n] = new Way();
            }
        }

        void refresh() {
            Sayings sayings = fair.sayings;
            Arrays.fill(saidIn, 0);
            for (int s = 0; s < sayings.count; s++) {
                saidIn[sayings.hour[s]] |= 1 << s;
            }
            for (int n = 0; n < fair.needles.count; n++) {
                for (int p = 0; p < fair.people.count; p++) {
                    sides[n][p] = sideOf(wayX(n, p), wayY(n, p));
                }
                heard[n] = heardWithRust(n, fair.needles.rust[n]);
                fillRow(n, heard[n], rows[n], lasts[n]);
            }
        }

        /** What a NEEDLE would SHOW in each HOUR if it HEARD just these SAYINGS, and by which HOUR. */
        void fillRow(int needle, int bits, int[] row, int[] hours) {
            int shown = NONE;
            int by = NONE;
            for (int hour = 0; hour < HOURS; hour++) {
                int now = saidIn[hour] & bits;
                if (now != 0) {
                    addUp(sum, needle, now);
                    shown = sum.sign();
                    by = hour;
                }
                row[hour] = shown;
                hours[hour] = by;
            }
        }

        private void addUp(Way way, int needle, int bits) {
            way.clear();
            for (int s = 0; s < fair.sayings.count; s++) {
                if ((bits >> s & 1) != 0) {
                    addPerson(way, needle, fair.sayings.who[s]);
                }
            }
        }

        private int wayX(int needle, int person) {
            return fair.people.x[person] - fair.needles.x[needle];
        }

        private int wayY(int needle, int person) {
            return fair.people.y[person] - fair.needles.y[needle];
        }

        private void addPerson(Way way, int needle, int person) {
            way.add(wayX(needle, person), wayY(needle, person));
        }

        private int farBetween(int needle, int person) {
            return farOf(wayX(needle, person), wayY(needle, person));
        }

        private boolean turns(int degree, int skill, int far, int reach, int rust, int hour) {
            if (degree <= 0) {
                return false;
            }
            if (fair.turns.length == 0) {
                return far <= reach && degree > rust;
            }
            values[DEGREE] = degree;
            values[SKILL] = skill;
            values[FAR] = far;
            values[REACH] = reach;
            values[RUST] = rust;
            values[HOUR] = hour;
            return fair.turns.run(values) > 0;
        }

        boolean hearsLie(int needle, int person, int degree, int hour) {
            Needles needles = fair.needles;
            int skill = fair.people.skill[person];
            int far = farBetween(needle, person);
            return turns(degree, skill, far, needles.reach[needle], needles.rust[needle], hour);
        }

        int heardWithRust(int needle, int rust) {
            Sayings sayings = fair.sayings;
            int bits = 0;
            for (int s = 0; s < sayings.count; s++) {
                int who = sayings.who[s];
                int far = farBetween(needle, who);
                int reach = fair.needles.reach[needle];
                if (turns(sayings.degree[s], fair.people.skill[who], far, reach, rust, sayings.hour[s])) {
                    bits |= 1 << s;
                }
            }
            return bits;
        }

        /** From how FAR a lie is HEARD, as bits 0 to 40: of a place TURNS knows nothing else. */
        long farsHeard(int degree, int skill, int reach, int rust, int hour) {
            long bits = 0;
            for (int far = 0; far < PLACES; far++) {
                if (turns(degree, skill, far, reach, rust, hour)) {
                    bits |= 1L << far;
                }
            }
            return bits;
        }

        int hearersOf(int saying) {
            int bits = 0;
            for (int n = 0; n < fair.needles.count; n++) {
                bits |= (heard[n] >> saying & 1) << n;
            }
            return bits;
        }

        int hearersOfLie(int person, int degree, int hour) {
            int bits = 0;
            for (int n = 0; n < fair.needles.count; n++) {
                if (hearsLie(n, person, degree, hour)) {
                    bits |= 1 << n;
                }
            }
            return bits;
        }

        int inReach(int person) {
            int bits = 0;
            for (int n = 0; n < fair.needles.count; n++) {
                if (farBetween(n, person) <= fair.needles.reach[n]) {
                    bits |= 1 << n;
                }
            }
            return bits;
        }

        boolean pointsAt(int needle, int person, int hour) {
            int shown = rows[needle][hour];
            return shown != FLAT && shown == sides[needle][person];
        }

        int pointersAt(int person, int hour) {
            int bits = 0;
            for (int n = 0; n < fair.needles.count; n++) {
                if (pointsAt(n, person, hour)) {
                    bits |= 1 << n;
                }
            }
            return bits;
        }

        int pointedBy(int needle, int hour) {
            int bits = 0;
            for (int p = 0; p < fair.people.count; p++) {
                if (pointsAt(needle, p, hour)) {
                    bits |= 1 << p;
                }
            }
            return bits;
        }

        boolean clashesIn(int hour) {
            for (int n = 1; n < fair.needles.count; n++) {
                int pointed = pointedBy(n, hour);
                for (int m = 0; m < n && pointed != 0; m++) {
                    int others = pointedBy(m, hour);
                    if (others != 0 && (others & pointed) == 0) {
                        return true;
                    }
                }
            }
            return false;
        }

        int quivers(int needle) {
            int found = 0;
            for (int hour = 1; hour < HOURS; hour++) {
                if (rows[needle][hour] != rows[needle][hour - 1]) {
                    found++;
                }
            }
            return found;
        }

        int turnedIn(int hour) {
            int found = 0;
            for (int n = 0; n < fair.needles.count && hour > 0; n++) {
                if (rows[n][hour] != rows[n][hour - 1]) {
                    found++;
                }
            }
            return found;
        }

        int worth(int needle) {
            Sayings sayings = fair.sayings;
            int worth = 0;
            for (int s = 0; s < sayings.count; s++) {
                if ((heard[needle] >> s & 1) != 0) {
                    worth += sides[needle][sayings.who[s]] == rows[needle][sayings.hour[s]] ? 1 : -1;
                }
            }
            return worth;
        }

        int liarsIn(int hour) {
            Sayings sayings = fair.sayings;
            int bits = 0;
            for (int s = 0; s < sayings.count; s++) {
                if (sayings.hour[s] == hour && sayings.degree[s] > 0) {
                    bits |= 1 << sayings.who[s];
                }
            }
            return bits;
        }

        /** Ahead of tellsApart, hearAll, allShow, shownBesidesLies: who HEARS a lie of each of PEOPLE. */
        void noteLies(int degree, int hour) {
            for (int p = 0; p < fair.people.count; p++) {
                lieHearers[p] = hearersOfLie(p, degree, hour);
            }
        }

        /** Ahead of allShow, shownBesides, shownBesidesLies: the ways that each NEEDLE HEARS in the HOUR already. */
        void noteSums(int hour) {
            for (int n = 0; n < fair.needles.count; n++) {
                addUp(sums[n], n, saidIn[hour] & heard[n]);
            }
        }

        boolean tellsApart(int needles) {
            for (int p = 1; p < fair.people.count; p++) {
                for (int q = 0; q < p; q++) {
                    if ((unlike(p, q) & needles) == 0) {
                        return false;
                    }
                }
            }
            return true;
        }

        private int unlike(int p, int q) {
            int bits = 0;
            for (int n = 0; n < fair.needles.count; n++) {
                if (shownAlone(n, p) != shownAlone(n, q)) {
                    bits |= 1 << n;
                }
            }
            return bits;
        }

        private int shownAlone(int needle, int person) {
            return (lieHearers[person] >> needle & 1) != 0 ? sides[needle][person] : NONE;
        }

        boolean hearAll(int needles) {
            for (int p = 0; p < fair.people.count; p++) {
                if ((lieHearers[p] & needles) == 0) {
                    return false;
                }
            }
            return true;
        }

        boolean allShow(int needles, int hour, int liars, int side) {
            for (int n = 0; n < fair.needles.count; n++) {
                if ((needles >> n & 1) != 0 && shownBesidesLies(n, hour, liars) != side) {
                    return false;
                }
            }
            return true;
        }

        int shownBesidesLies(int needle, int hour, int liars) {
            boolean hears = false;
            sum.copyFrom(sums[needle]);
            for (int p = 0; p < fair.people.count; p++) {
                if ((liars >> p & 1) != 0 && (lieHearers[p] >> needle & 1) != 0) {
                    addPerson(sum, needle, p);
                    hears = true;
                }
            }
            return hears ? sum.sign() : rows[needle][hour];
        }

        /** What a NEEDLE SHOWS in an HOUR if it HEARS one lie more from this place, told in the HOUR of noteSums. */
        int shownBesides(int needle, int hour, int told, int x, int y) {
            if (hour < told || lasts[needle][hour] > told) {
                return rows[needle][hour];
            }
            sum.copyFrom(sums[needle]);
            sum.add(x - fair.needles.x[needle], y - fair.needles.y[needle]);
            return sum.sign();
        }
    }

    /** What a COURT has before it: what each NEEDLE SHOWS, and how often each of PEOPLE has said something. */
    private static final class Court {
        static final int POINTS = 0;
        static final int LYING = 1;
        static final int SKILL = 2;
        static final int SAID = 3;
        static final int HOUR = 4;

        private final int[] shown = new int[NEEDLES];
        private final int[] said = new int[PEOPLE];
        private final int[] values = new int[5];

        void silence() {
            Arrays.fill(shown, NONE);
            Arrays.fill(said, 0);
        }

        /** One SAYING more, in an HOUR behind all others. */
        void hearOne(Watch watch, int person, int degree, int hour) {
            if (person < 0 || person >= PEOPLE) {
                return;
            }
            said[person]++;
            for (int n = 0; n < watch.fair.needles.count; n++) {
                if (watch.hearsLie(n, person, degree, hour)) {
                    shown[n] = watch.sides[n][person];
                }
            }
        }

        void hearAll(Watch watch, int hour) {
            Sayings sayings = watch.fair.sayings;
            Arrays.fill(said, 0);
            for (int s = 0; s < sayings.count; s++) {
                if (sayings.hour[s] <= hour) {
                    said[sayings.who[s]]++;
                }
            }
            for (int n = 0; n < watch.fair.needles.count; n++) {
                shown[n] = watch.rows[n][hour];
            }
        }

        /** All SAYINGS, and lies of these in the HOUR, behind noteLies and noteSums. */
        void hearBesides(Watch watch, int hour, int liars) {
            hearAll(watch, hour);
            for (int p = 0; p < PEOPLE; p++) {
                said[p] += liars >> p & 1;
            }
            for (int n = 0; n < watch.fair.needles.count; n++) {
                shown[n] = watch.shownBesidesLies(n, hour, liars);
            }
        }

        /** Whom the COURT ACCUSES, by these NEEDLES alone. */
        int accuse(Watch watch, int hour, int needles) {
            int best = NONE;
            int most = 0;
            for (int p = 0; p < watch.fair.people.count; p++) {
                int value = weigh(watch, p, hour, needles);
                if (value > most) {
                    best = p;
                    most = value;
                }
            }
            return best;
        }

        private int weigh(Watch watch, int person, int hour, int needles) {
            int points = 0;
            int flat = 0;
            for (int n = 0; n < watch.fair.needles.count; n++) {
                if ((needles >> n & 1) != 0 && shown[n] == watch.sides[n][person]) {
                    if (shown[n] == FLAT) {
                        flat++;
                    } else {
                        points++;
                    }
                }
            }
            if (watch.fair.court.length == 0) {
                return points;
            }
            values[POINTS] = points;
            values[LYING] = flat;
            values[SKILL] = watch.fair.people.skill[person];
            values[SAID] = said[person];
            values[HOUR] = hour;
            return watch.fair.court.run(values);
        }
    }

    // ---- what is kept beside a fair

    private static final class Acts {
        static final int TOLD = 0;
        static final int BACK = 1;
        static final int RUSTED = 2;
        static final int CARRIED = 3;

        int count;
        private final int[] kind = new int[ACTS];
        private final int[] a = new int[ACTS];
        private final int[] b = new int[ACTS];
        private final int[] c = new int[ACTS];

        void keep(int what, int first, int second, int third) {
            if (count >= ACTS) {
                forgetEldest();
            }
            kind[count] = what;
            a[count] = first;
            b[count] = second;
            c[count] = third;
            count++;
        }

        private void forgetEldest() {
            System.arraycopy(kind, 1, kind, 0, ACTS - 1);
            System.arraycopy(a, 1, a, 0, ACTS - 1);
            System.arraycopy(b, 1, b, 0, ACTS - 1);
            System.arraycopy(c, 1, c, 0, ACTS - 1);
            count = ACTS - 1;
        }

        void revertLast(Fair fair) {
            if (count <= 0) {
                return;
            }
            count--;
            int first = a[count];
            int second = b[count];
            int third = c[count];
            switch (kind[count]) {
                case TOLD:
                    fair.sayings.dropLast();
                    break;
                case BACK:
                    fair.sayings.add(first, second, third);
                    break;
                case RUSTED:
                    fair.needles.setRust(first, second);
                    break;
                default:
                    fair.needles.setPlace(first, second, third);
                    break;
            }
        }

        void copyFrom(Acts from) {
            count = from.count;
            System.arraycopy(from.kind, 0, kind, 0, ACTS);
            System.arraycopy(from.a, 0, a, 0, ACTS);
            System.arraycopy(from.b, 0, b, 0, ACTS);
            System.arraycopy(from.c, 0, c, 0, ACTS);
        }
    }

    private static final class Seen {
        int count;
        final int[] needle = new int[SEEN];
        final int[] hour = new int[SEEN];
        final int[] shown = new int[SEEN];

        void add(int which, int when, int what) {
            if (count < SEEN) {
                needle[count] = which;
                hour[count] = when;
                shown[count] = what;
                count++;
            }
        }

        void copyFrom(Seen from) {
            count = from.count;
            System.arraycopy(from.needle, 0, needle, 0, SEEN);
            System.arraycopy(from.hour, 0, hour, 0, SEEN);
            System.arraycopy(from.shown, 0, shown, 0, SEEN);
        }
    }
}
