/** One fan for six. What each call must do is said in ../shared/DOC.md, promises 1 to 45. */
public final class OneFan {
    public static final int NONE = -1, BAD = -2, STATE = -3, FULL = -4;
    public static final long NO = Long.MIN_VALUE;

    private static final int NOTHING = -5, OTHER_KIND = -6;
    private static final int WORTH_NONE = -10001, WORTH_BAD = -10002;
    private static final int PLACES = 10, FANS = 4, SITTERS = 6, ROOMS = 5, SIGNS = 100;
    private static final int HEATS = 6, RULES = 4, BOOKS = 8;
    private static final int LAST_SECOND = 99999;
    // Above any sum of six heats, so that greatest * SUMS + sum orders by the greatest first.
    private static final int SUMS = 1000;
    // Above all that is to be least: the first one tried is always less.
    private static final int ABOVE_ALL = 1000000;

    private final Hall hall = new Hall();
    private final Hall kept = new Hall();
    private boolean isKept = false;
    // Every question about seconds to come is played through here, so that asking makes no objects.
    private final Sitters next = new Sitters();
    private final int[] streaks = new int[PLACES];
    private final Trace ran = new Trace();

    public OneFan() {
    }

    // ---- rooms, fans, sitters

    public int feed(int sign) {
        if (sign < 0 || sign > 127) {
            return BAD;
        }
        if (hall.signs >= SIGNS) {
            return FULL;
        }
        hall.tape[hall.signs] = sign;
        hall.signs++;
        return hall.signs;
    }

    public int room() {
        if (hall.rooms >= ROOMS) {
            return FULL;
        }
        Room read = new Room();
        boolean isRoom = read.isRead(hall.tape, hall.signs);
        hall.signs = 0;
        if (!isRoom) {
            return -10 - read.next;
        }
        hall.room = read;
        hall.rooms++;
        return hall.rooms - 1;
    }

    public int fan(int kind, int v, int from, int to, int pace) {
        if (kind < 0 || kind > 6) {
            return NONE;
        }
        if (v < 0 || v > 9 || !isSetting(from, to, pace)) {
            return BAD;
        }
        if (hall.fanCount >= FANS) {
            return FULL;
        }
        hall.fans[hall.fanCount] = newFan(kind, hall.fanCount, v, from, to, pace);
        hall.fanCount++;
        return hall.fanCount - 1;
    }

    public int of(int fan, int what) {
        Fan found = hall.fanOf(fan);
        if (found == null) {
            return NONE;
        }
        switch (what) {
            case 0: return found.kind;
            case 1: return found.v;
            case 2: return found.from;
            case 3: return found.to;
            case 4: return found.pace;
            case 5: return found.isOn ? 1 : 0;
            case 6: return found.spot(hall.second, hall.sitters);
            default: return NONE;
        }
    }

    public int turn(int fan, int from, int to, int pace) {
        Fan found = hall.fanOf(fan);
        if (found == null) {
            return NONE;
        }
        if (!isSetting(from, to, pace)) {
            return BAD;
        }
        found.from = from;
        found.to = to;
        found.pace = pace;
        return found.spot(hall.second, hall.sitters);
    }

    public int on(int fan, boolean is) {
        Fan found = hall.fanOf(fan);
        if (found == null) {
            return NONE;
        }
        int was = found.isOn ? 1 : 0;
        found.isOn = is;
        return was;
    }

    public int row(int fan, int k, int n) {
        Fan found = hall.fanOf(fan);
        if (found == null || k < 0 || k > 3) {
            return NONE;
        }
        if (!isPlace(n)) {
            return BAD;
        }
        if (found instanceof Told teller) {
            int was = teller.places[k];
            teller.places[k] = n;
            return was;
        }
        return STATE;
    }

    public int sitter(int place, int heat) {
        if (!isPlace(place)) {
            return NONE;
        }
        if (!isHeat(heat)) {
            return BAD;
        }
        Sitters all = hall.sitters;
        if (all.size >= SITTERS) {
            return FULL;
        }
        all.place[all.size] = place;
        all.heat[all.size] = heat;
        all.run[all.size] = 0;
        all.size++;
        return all.size - 1;
    }

    public int at(int sitter, int what) {
        if (!hall.sitters.has(sitter)) {
            return NONE;
        }
        switch (what) {
            case 0: return hall.sitters.place[sitter];
            case 1: return hall.sitters.heat[sitter];
            case 2: return hall.sitters.run[sitter];
            case 3: return hall.meetersOf(sitter, hall.second);
            default: return NONE;
        }
    }

    public int move(int sitter, int place) {
        if (!hall.sitters.has(sitter) || !isPlace(place)) {
            return NONE;
        }
        int was = hall.sitters.place[sitter];
        hall.sitters.place[sitter] = place;
        return was;
    }

    public int heat(int sitter, int n) {
        if (!hall.sitters.has(sitter)) {
            return NONE;
        }
        if (!isHeat(n)) {
            return BAD;
        }
        int was = hall.sitters.heat[sitter];
        hall.sitters.heat[sitter] = n;
        return was;
    }

    public int told(int what) {
        switch (what) {
            case 0: return hall.second;
            case 1: return hall.room.hot;
            case 2: return hall.room.fly;
            default: return NONE;
        }
    }

    public int go(int n) {
        if (!isIn(n, 0, 60)) {
            return BAD;
        }
        if (hall.second + n > LAST_SECOND) {
            return STATE;
        }
        hall.pass(hall.sitters, hall.onMask(), hall.second, n);
        hall.second += n;
        return hall.second;
    }

    public int is(int fan, int second) {
        Fan found = hall.fanOf(fan);
        if (found == null) {
            return NONE;
        }
        if (!isIn(second, 0, 9999)) {
            return BAD;
        }
        return found.spot(second, hall.sitters);
    }

    // ---- seconds to come

    public int then(int n, int what) {
        boolean isOfAll = what == 0 || what == 1;
        boolean isHeatOf = isIn(what, 10, 19) && hall.sitters.has(what - 10);
        boolean isMetOf = isIn(what, 20, 29) && hall.sitters.has(what - 20);
        if (!isOfAll && !isHeatOf && !isMetOf) {
            return NONE;
        }
        if (!isIn(n, 0, 60)) {
            return BAD;
        }
        Sitters then = after(hall.onMask(), n);
        if (isHeatOf) {
            return then.heat[what - 10];
        }
        if (isMetOf) {
            return then.met[what - 20];
        }
        return what == 0 ? then.greatest() : then.together();
    }

    public int hottest(int n) {
        if (!isIn(n, 0, 60)) {
            return BAD;
        }
        Sitters then = after(hall.onMask(), n);
        int found = NOTHING;
        for (int s = 0; s < then.size; s++) {
            if (found == NOTHING || then.heat[s] > then.heat[found]) {
                found = s;
            }
        }
        return found;
    }

    public int tooHot(int sitter) {
        if (!hall.sitters.has(sitter)) {
            return NONE;
        }
        int mask = hall.onMask();
        next.resemble(hall.sitters);
        for (int n = 0; n <= 60; n++) {
            if (next.heat[sitter] >= hall.room.hot) {
                return n;
            }
            hall.pass(next, mask, hall.second + n, 1);
        }
        return NOTHING;
    }

    // ---- settings, seats

    public int set(int fan, int n, int what) {
        Fan found = hall.fanOf(fan);
        if (found == null || !isEither(what)) {
            return NONE;
        }
        if (!isIn(n, 1, 30)) {
            return BAD;
        }
        int oldFrom = found.from;
        int oldTo = found.to;
        int best = ABOVE_ALL;
        int setting = 0;
        for (int from = 0; from < PLACES; from++) {
            for (int to = from; to < PLACES; to++) {
                found.from = from;
                found.to = to;
                int heats = after(hall.onMask(), n).greatestThenSum();
                if (heats < best) {
                    best = heats;
                    setting = from * 10 + to;
                }
            }
        }
        found.from = oldFrom;
        found.to = oldTo;
        return what == 0 ? setting : best / SUMS;
    }

    public int paced(int fan, int n) {
        Fan found = hall.fanOf(fan);
        if (found == null) {
            return NONE;
        }
        if (!isIn(n, 1, 30)) {
            return BAD;
        }
        int oldPace = found.pace;
        int best = ABOVE_ALL;
        int setting = 1;
        for (int pace = 1; pace <= 4; pace++) {
            found.pace = pace;
            int heats = after(hall.onMask(), n).greatestThenSum();
            if (heats < best) {
                best = heats;
                setting = pace;
            }
        }
        found.pace = oldPace;
        return setting;
    }

    public int seat(int sitter, int n, int what) {
        if (!hall.sitters.has(sitter) || !isEither(what)) {
            return NONE;
        }
        if (!isIn(n, 1, 30)) {
            return BAD;
        }
        int best = ABOVE_ALL;
        int found = 0;
        for (int place = 0; place < PLACES; place++) {
            int heat = heatSeated(sitter, place, n);
            if (heat < best) {
                best = heat;
                found = place;
            }
        }
        return what == 0 ? found : best;
    }

    public int change(int n) {
        if (!isIn(n, 1, 30)) {
            return BAD;
        }
        int best = after(hall.onMask(), n).greatest();
        int found = NOTHING;
        for (int one = 0; one < hall.sitters.size; one++) {
            for (int other = one + 1; other < hall.sitters.size; other++) {
                int greatest = greatestChanged(one, other, n);
                if (greatest < best) {
                    best = greatest;
                    found = one * 10 + other;
                }
            }
        }
        return found;
    }

    public int worth(int fan, int n) {
        if (hall.fanOf(fan) == null) {
            return WORTH_NONE;
        }
        if (!isIn(n, 1, 60)) {
            return WORTH_BAD;
        }
        int withIt = after(hall.onMask() | 1 << fan, n).together();
        int without = after(hall.onMask() & ~(1 << fan), n).together();
        return without - withIt;
    }

    public int round(int n, int what) {
        if (!isEither(what)) {
            return NONE;
        }
        if (!isIn(n, 1, 60)) {
            return BAD;
        }
        if (hall.sitters.size == 0) {
            return NOTHING;
        }
        int best = ABOVE_ALL;
        int found = 1;
        for (int k = 1; k <= 20; k++) {
            int greatest = greatestRound(k, n);
            if (greatest < best) {
                best = greatest;
                found = k;
            }
        }
        return what == 0 ? found : best;
    }

    // ---- two fans, periods

    public int meets(int one, int other, int n) {
        Fan first = hall.fanOf(one);
        Fan second = hall.fanOf(other);
        if (first == null || second == null) {
            return NONE;
        }
        if (one == other || !isIn(n, 1, 60)) {
            return BAD;
        }
        return meetings(first, second, n, 0);
    }

    public int late(int one, int other, int n, int what) {
        Fan first = hall.fanOf(one);
        Fan second = hall.fanOf(other);
        if (first == null || second == null || !isEither(what)) {
            return NONE;
        }
        if (one == other || !isIn(n, 1, 60)) {
            return BAD;
        }
        int best = ABOVE_ALL;
        int found = 0;
        for (int later = 0; later < 30; later++) {
            int meetings = meetings(first, second, n, later);
            if (meetings < best) {
                best = meetings;
                found = later;
            }
        }
        return what == 0 ? found : best;
    }

    public int period(int fan) {
        Fan found = hall.fanOf(fan);
        if (found == null) {
            return NONE;
        }
        for (int p = 1; p <= 200; p++) {
            if (comesAgain(found, p)) {
                return p;
            }
        }
        return NOTHING;
    }

    // ---- papers, heats

    public int papers(int n) {
        return isIn(n, 1, 60) ? papersOf(hall.onMask(), n) : BAD;
    }

    public int flown(int bits) {
        if (!isIn(bits, 0, 1023)) {
            return BAD;
        }
        int was = hall.flown;
        hall.flown = bits;
        return was;
    }

    public int which(int n) {
        if (!isIn(n, 1, 60)) {
            return BAD;
        }
        int bits = 0;
        for (int f = 0; f < hall.fanCount; f++) {
            if (papersOf(1 << f, n) == hall.flown) {
                bits |= 1 << f;
            }
        }
        return bits;
    }

    public int see(int sitter, int n, int heat) {
        if (sitter == -1) {
            hall.heatRows = 0;
            return 0;
        }
        if (!hall.sitters.has(sitter)) {
            return NONE;
        }
        if (!isIn(n, 0, 60) || !isHeat(heat)) {
            return BAD;
        }
        if (hall.heatRows >= HEATS) {
            return FULL;
        }
        putRow(hall.heats, hall.heatRows, sitter, n, heat);
        hall.heatRows++;
        return hall.heatRows;
    }

    public int sat(int sitter) {
        if (!hall.sitters.has(sitter)) {
            return NONE;
        }
        int bits = (1 << PLACES) - 1;
        for (int i = 0; i < hall.heatRows; i++) {
            for (int place = 0; place < PLACES && hall.heats[i * 3] == sitter; place++) {
                if (heatSeated(sitter, place, hall.heats[i * 3 + 1]) != hall.heats[i * 3 + 2]) {
                    bits &= ~(1 << place);
                }
            }
        }
        return bits;
    }

    // ---- odds, rules, books; part 0 above, 1 below the line

    public long odds(int sitter, int n, int part) {
        if (!hall.sitters.has(sitter) || !isIn(n, 1, 30) || !isEither(part)) {
            return NO;
        }
        int good = 0;
        for (int start = 0; start < 20; start++) {
            if (isMetFrom(sitter, start, n)) {
                good++;
            }
        }
        return lowest(good, 20, part);
    }

    public long mean(int fan, int n, int part) {
        Fan found = hall.fanOf(fan);
        if (found == null || !isIn(n, 1, 60) || !isEither(part)) {
            return NO;
        }
        int sum = 0;
        for (int i = 0; i < n; i++) {
            sum += found.spot(hall.second + i, hall.sitters);
        }
        return lowest(sum, n, part);
    }

    public int even(int n) {
        if (!isIn(n, 0, 60)) {
            return BAD;
        }
        if (hall.sitters.size == 0) {
            return NOTHING;
        }
        Sitters then = after(hall.onMask(), n);
        return then.greatest() - then.least();
    }

    public int rule(int fan, int seconds) {
        if (seconds == -1) {
            hall.ruleRows = 0;
            return 0;
        }
        if (fan != -1 && hall.fanOf(fan) == null) {
            return NONE;
        }
        if (!isIn(seconds, 1, 20)) {
            return BAD;
        }
        if (hall.ruleRows >= RULES) {
            return FULL;
        }
        putRow(hall.rules, hall.ruleRows, fan, seconds, 0);
        hall.ruleRows++;
        return hall.ruleRows;
    }

    public int ruled(int n, int what) {
        if (!isEither(what)) {
            return NONE;
        }
        if (!isIn(n, 1, 60)) {
            return BAD;
        }
        if (hall.ruleRows == 0 || hall.sitters.size == 0) {
            return NOTHING;
        }
        next.resemble(hall.sitters);
        int changes = 0;
        for (int i = 0; i < n; i++) {
            int fan = hall.ruledFan(i);
            if (i > 0 && fan != hall.ruledFan(i - 1)) {
                changes++;
            }
            hall.pass(next, fan < 0 ? 0 : 1 << fan, hall.second + i, 1);
        }
        return what == 0 ? next.greatest() : changes;
    }

    public int book(int fan, int second, int place) {
        if (fan == -1) {
            hall.bookRows = 0;
            return 0;
        }
        if (hall.fanOf(fan) == null || !isPlace(place)) {
            return NONE;
        }
        if (!isIn(second, 0, 999)) {
            return BAD;
        }
        if (hall.bookRows >= BOOKS) {
            return FULL;
        }
        putRow(hall.books, hall.bookRows, fan, second, place);
        hall.bookRows++;
        return hall.bookRows;
    }

    public int looked() {
        for (int i = 0; i < hall.bookRows; i++) {
            Fan found = hall.fanOf(hall.books[i * 3]);
            if (found != null && found.spot(hall.books[i * 3 + 1], hall.sitters) != hall.books[i * 3 + 2]) {
                return i;
            }
        }
        return NOTHING;
    }

    // ---- acts, the image

    public int act(int fan, int act, int x) {
        ran.forget();
        Fan found = hall.fanOf(fan);
        if (found == null) {
            return 0;
        }
        switch (act) {
            case 0: return found.blows(x, ran);
            case 1: return found.goes(x, ran);
            case 2: return found.tells(x, ran);
            default: return 0;
        }
    }

    public int trace(int i) {
        return i >= 0 && i < ran.all && i < ran.bodies.length ? ran.bodies[i] : NONE;
    }

    public int as(int fan, int k) {
        Fan found = hall.fanOf(fan);
        if (found == null || k < 0 || k > 6) {
            return NONE;
        }
        return found.isOne(k) ? found.v : OTHER_KIND;
    }

    public int image() {
        kept.resemble(hall);
        isKept = true;
        return hall.fanCount;
    }

    public int undo() {
        if (!isKept) {
            return STATE;
        }
        hall.resemble(kept);
        return hall.fanCount;
    }

    public int count(int what) {
        switch (what) {
            case 0: return hall.fanCount;
            case 1: return hall.sitters.size;
            case 2: return hall.rooms;
            case 3: return hall.heatRows;
            case 4: return hall.ruleRows;
            case 5: return hall.bookRows;
            case 6: return hall.signs;
            case 7: return ran.all;
            default: return NONE;
        }
    }

    // ---- what the calls share

    private static boolean isIn(int n, int least, int most) {
        return n >= least && n <= most;
    }

    private static boolean isEither(int what) {
        return what == 0 || what == 1;
    }

    private static boolean isPlace(int n) {
        return n >= 0 && n < PLACES;
    }

    private static boolean isHeat(int n) {
        return n >= 0 && n <= 99;
    }

    private static boolean isSetting(int from, int to, int pace) {
        return isPlace(from) && isPlace(to) && from <= to && pace >= 1 && pace <= 4;
    }

    private static Fan newFan(int kind, int number, int v, int from, int to, int pace) {
        switch (kind) {
            case 1: return new Swing(kind, number, v, from, to, pace);
            case 2: return new Turn(kind, number, v, from, to, pace);
            case 3: return new Hold(kind, number, v, from, to, pace);
            case 4: return new Wide(kind, number, v, from, to, pace);
            case 5: return new Handed(kind, number, v, from, to, pace);
            case 6: return new Told(kind, number, v, from, to, pace);
            default: return new Fan(kind, number, v, from, to, pace);
        }
    }

    private static void putRow(int[] rows, int i, int a, int b, int c) {
        if (i >= 0 && i * 3 + 2 < rows.length) {
            rows[i * 3] = a;
            rows[i * 3 + 1] = b;
            rows[i * 3 + 2] = c;
        }
    }

    private static long lowest(int above, int below, int part) {
        int divisor = 1;
        for (int d = 2; d <= below; d++) {
            if (above % d == 0 && below % d == 0) {
                divisor = d;
            }
        }
        return part == 0 ? above / divisor : below / divisor;
    }

    private Sitters after(int mask, int n) {
        next.resemble(hall.sitters);
        hall.pass(next, mask, hall.second, n);
        return next;
    }

    private int heatSeated(int sitter, int place, int n) {
        next.resemble(hall.sitters);
        next.place[sitter] = place;
        hall.pass(next, hall.onMask(), hall.second, n);
        return next.heat[sitter];
    }

    private int greatestChanged(int one, int other, int n) {
        next.resemble(hall.sitters);
        next.place[one] = hall.sitters.place[other];
        next.place[other] = hall.sitters.place[one];
        hall.pass(next, hall.onMask(), hall.second, n);
        return next.greatest();
    }

    private int greatestRound(int k, int n) {
        next.resemble(hall.sitters);
        for (int i = 0; i < n; i++) {
            int holder = i / k % next.size;
            next.sit(hall.room, 1 << next.place[holder], 1, hall.second + i);
        }
        return next.greatest();
    }

    private int meetings(Fan first, Fan second, int n, int later) {
        int met = 0;
        for (int i = 0; i < n; i++) {
            int t = hall.second + i;
            if (first.spot(t, hall.sitters) == second.spot(t + later, hall.sitters)) {
                met++;
            }
        }
        return met;
    }

    private boolean comesAgain(Fan fan, int p) {
        for (int t = 0; t < 200; t++) {
            if (fan.spot(t, hall.sitters) != fan.spot(t + p, hall.sitters)) {
                return false;
            }
        }
        return true;
    }

    private int papersOf(int mask, int n) {
        for (int place = 0; place < PLACES; place++) {
            streaks[place] = 0;
        }
        int bits = 0;
        for (int i = 0; i < n; i++) {
            int reached = hall.reached(mask, hall.second + i, hall.sitters);
            for (int place = 0; place < PLACES; place++) {
                streaks[place] = (reached >> place & 1) == 1 ? streaks[place] + 1 : 0;
                if (streaks[place] >= hall.room.fly) {
                    bits |= 1 << place;
                }
            }
        }
        return bits;
    }

    private boolean isMetFrom(int sitter, int start, int n) {
        for (int i = 0; i < n; i++) {
            if (hall.meetersOf(sitter, start + i) != 0) {
                return true;
            }
        }
        return false;
    }

    /** The numbers of the bodies that ran in the latest act. */
    private static final class Trace {
        final int[] bodies = new int[20];
        int all = 0;

        void forget() {
            all = 0;
        }

        void began(int body) {
            if (all < bodies.length) {
                bodies[all] = body;
            }
            all++;
        }
    }

    private static class Fan {
        final int kind, number, v;
        int from, to, pace;
        boolean isOn = true;

        Fan(int kind, int number, int v, int from, int to, int pace) {
            this.kind = kind;
            this.number = number;
            this.v = v;
            this.from = from;
            this.to = to;
            this.pace = pace;
        }

        /** Takes over what a new fan of the same setting has not yet. */
        void resemble(Fan other) {
            isOn = other.isOn;
        }

        boolean isOne(int k) {
            return k == 0;
        }

        int spot(int t, Sitters sitters) {
            return from;
        }

        int reach(int t, Sitters sitters) {
            return 1 << spot(t, sitters);
        }

        int paces(int t) {
            return pace > 0 ? t / pace : 0;
        }

        int blows(int x, Trace ran) {
            ran.began(1);
            return x + number;
        }

        int goes(int x, Trace ran) {
            ran.began(2);
            return blows(x, ran) - v;
        }

        int tells(int x, Trace ran) {
            ran.began(3);
            return goes(x, ran) * 2;
        }
    }

    private static class Swing extends Fan {
        Swing(int kind, int number, int v, int from, int to, int pace) {
            super(kind, number, v, from, to, pace);
        }

        boolean isOne(int k) {
            return k == 1 || super.isOne(k);
        }

        int spot(int t, Sitters sitters) {
            int way = (to - from) * pace;
            int half = way + v;
            if (way <= 0) {
                return from;
            }
            // Each half of the way begins with the longer stay at its end.
            int inHalf = t % half;
            int steps = inHalf < v ? 0 : paces(inHalf - v);
            return t / half % 2 == 0 ? from + steps : to - steps;
        }

        int blows(int x, Trace ran) {
            ran.began(11);
            return super.blows(x * 3, ran);
        }
    }

    private static class Turn extends Fan {
        Turn(int kind, int number, int v, int from, int to, int pace) {
            super(kind, number, v, from, to, pace);
        }

        boolean isOne(int k) {
            return k == 2 || super.isOne(k);
        }

        int spot(int t, Sitters sitters) {
            int places = to - from + 1;
            return places > 0 ? from + paces(t) % places : from;
        }

        int goes(int x, Trace ran) {
            ran.began(21);
            return -super.goes(x, ran);
        }
    }

    private static class Hold extends Fan {
        Hold(int kind, int number, int v, int from, int to, int pace) {
            super(kind, number, v, from, to, pace);
        }

        boolean isOne(int k) {
            return k == 3 || super.isOne(k);
        }

        int spot(int t, Sitters sitters) {
            return v;
        }

        int tells(int x, Trace ran) {
            ran.began(31);
            return super.tells(x, ran) ^ 7;
        }
    }

    /** The document's DOUBLE. */
    private static final class Wide extends Swing {
        Wide(int kind, int number, int v, int from, int to, int pace) {
            super(kind, number, v, from, to, pace);
        }

        boolean isOne(int k) {
            return k == 4 || super.isOne(k);
        }

        int reach(int t, Sitters sitters) {
            int place = spot(t, sitters);
            return 1 << place | 1 << Math.min(place + 1, PLACES - 1);
        }

        int tells(int x, Trace ran) {
            ran.began(41);
            return super.tells(x - 1, ran) + blows(2, ran);
        }
    }

    private static final class Handed extends Hold {
        Handed(int kind, int number, int v, int from, int to, int pace) {
            super(kind, number, v, from, to, pace);
        }

        boolean isOne(int k) {
            return k == 5 || super.isOne(k);
        }

        int spot(int t, Sitters sitters) {
            return sitters.size > 0 ? sitters.place[t / 10 % sitters.size] : from;
        }

        int blows(int x, Trace ran) {
            ran.began(51);
            return super.blows(x, ran) ^ number;
        }
    }

    private static final class Told extends Turn {
        final int[] places = new int[4];

        Told(int kind, int number, int v, int from, int to, int pace) {
            super(kind, number, v, from, to, pace);
        }

        void resemble(Fan other) {
            super.resemble(other);
            if (other instanceof Told teller) {
                System.arraycopy(teller.places, 0, places, 0, places.length);
            }
        }

        boolean isOne(int k) {
            return k == 6 || super.isOne(k);
        }

        int spot(int t, Sitters sitters) {
            return places[paces(t) % places.length];
        }

        int goes(int x, Trace ran) {
            ran.began(61);
            return super.goes(x, ran) + v;
        }
    }

    private static final class Sitters {
        final int[] place = new int[SITTERS];
        final int[] heat = new int[SITTERS];
        final int[] run = new int[SITTERS];
        final int[] met = new int[SITTERS];
        // What a room's tests ask of one sitter, in the order of ASKED.
        final int[] known = new int[6];
        int size = 0;

        boolean has(int sitter) {
            return sitter >= 0 && sitter < size;
        }

        void resemble(Sitters other) {
            System.arraycopy(other.place, 0, place, 0, SITTERS);
            System.arraycopy(other.heat, 0, heat, 0, SITTERS);
            System.arraycopy(other.run, 0, run, 0, SITTERS);
            for (int s = 0; s < SITTERS; s++) {
                met[s] = 0;
            }
            size = other.size;
        }

        /** One second goes: reached are the places, as bits, to which some fan comes in it. */
        void sit(Room room, int reached, int fansOn, int t) {
            for (int s = 0; s < size; s++) {
                boolean isMet = (reached >> place[s] & 1) == 1;
                run[s] = isMet ? Math.min(run[s] + 1, 9) : 0;
                if (isMet) {
                    met[s]++;
                }
                known[0] = s;
                known[1] = place[s];
                known[2] = heat[s] / 10;
                known[3] = run[s];
                known[4] = t % 10;
                known[5] = fansOn;
                int becomes = heat[s] + room.sumOf(Room.WARM, 2, known);
                if (isMet) {
                    becomes -= room.sumOf(Room.COOL, Math.max(1, 6 - run[s]), known);
                }
                heat[s] = Math.max(0, Math.min(becomes, 99));
            }
        }

        int greatest() {
            int most = 0;
            for (int s = 0; s < size; s++) {
                most = Math.max(most, heat[s]);
            }
            return most;
        }

        int least() {
            int fewest = 99;
            for (int s = 0; s < size; s++) {
                fewest = Math.min(fewest, heat[s]);
            }
            return fewest;
        }

        int together() {
            int sum = 0;
            for (int s = 0; s < size; s++) {
                sum += heat[s];
            }
            return sum;
        }

        int greatestThenSum() {
            return greatest() * SUMS + together();
        }
    }

    /** A room is read once and never changes after, so that images may share it. */
    private static final class Room {
        private static final int CLAUSES = 10, OPEN = 5;
        private static final int HOT = 0, FLY = 1, WARM = 2, COOL = 3;
        private static final int NOT = -1, AND = -2, OR = -3;
        private static final String ASKED = "sphrtk", SIGNS_OF_ORDER = "<=>";

        private final int[] words = new int[CLAUSES];
        private final int[] numbers = new int[CLAUSES];
        private final int[] ends = new int[CLAUSES];
        // The clauses' conditions one behind the other, each in the order in which it is worked out.
        private final int[] steps = new int[SIGNS];
        private final int[] counts = new int[4];
        private int clauses = 0, used = 0;
        private int[] tape = null;
        private int signs = 0, number = 0;
        /** The place up to which the tape could be read: the fault, if it is no room. */
        int next = 0;
        int hot = 80, fly = 3;

        boolean isRead(int[] text, int size) {
            tape = text;
            signs = Math.min(size, text.length);
            for (int i = 0; i < CLAUSES; i++) {
                if (i > 0 && !hasTaken(';') || !readClause(i)) {
                    return false;
                }
                clauses = i + 1;
                if (next == signs) {
                    return true;
                }
            }
            return false;
        }

        /** The sign that comes next; -1 behind the last. */
        private int ahead() {
            return tape != null && next >= 0 && next < signs ? tape[next] : -1;
        }

        private boolean hasTaken(int sign) {
            if (ahead() != sign) {
                return false;
            }
            next++;
            return true;
        }

        private boolean readClause(int i) {
            int word = wordAhead();
            if (word < 0 || !readWord(word) || !readNumber()) {
                return false;
            }
            words[i] = word;
            numbers[i] = number;
            if (word == HOT) {
                hot = number;
            } else if (word == FLY) {
                fly = Math.max(1, number);
            } else if (!hasTaken(' ') || !readAny(0)) {
                return false;
            }
            counts[word]++;
            ends[i] = used;
            return true;
        }

        private int wordAhead() {
            switch (ahead()) {
                case 'h': return HOT;
                case 'f': return FLY;
                case 'w': return WARM;
                case 'c': return COOL;
                default: return -1;
            }
        }

        private boolean readWord(int word) {
            String text = word == HOT ? "hot " : word == FLY ? "fly " : word == WARM ? "warm " : "cool ";
            for (int i = 0; i < text.length(); i++) {
                if (!hasTaken(text.charAt(i))) {
                    return false;
                }
            }
            return true;
        }

        private static boolean isDigit(int sign) {
            return sign >= '0' && sign <= '9';
        }

        private boolean readNumber() {
            if (!isDigit(ahead())) {
                return false;
            }
            number = ahead() - '0';
            next++;
            if (number > 0 && isDigit(ahead())) {
                number = number * 10 + ahead() - '0';
                next++;
            }
            return true;
        }

        /** The document's E and T; open is how many of ! and ( are open. A T is joined to those ahead at its end. */
        private boolean readAny(int open) {
            boolean isBehindAnd = false;
            boolean isBehindOr = false;
            for (int i = next; i <= signs; i++) {
                if (!readOne(open)) {
                    return false;
                }
                if (isBehindAnd) {
                    put(AND);
                }
                isBehindAnd = hasTaken('&');
                if (isBehindAnd) {
                    continue;
                }
                if (isBehindOr) {
                    put(OR);
                }
                isBehindOr = hasTaken('|');
                if (!isBehindOr) {
                    return true;
                }
            }
            return false;
        }

        /** The document's F. */
        private boolean readOne(int open) {
            if (ahead() != '!' && ahead() != '(') {
                return readTest();
            }
            if (open >= OPEN) {
                return false;
            }
            if (hasTaken('(')) {
                return readAny(open + 1) && hasTaken(')');
            }
            next++;
            if (!readOne(open + 1)) {
                return false;
            }
            put(NOT);
            return true;
        }

        private boolean readTest() {
            int asked = ahead() < 0 ? -1 : ASKED.indexOf((char) ahead());
            if (asked < 0) {
                return false;
            }
            next++;
            int order = ahead() < 0 ? -1 : SIGNS_OF_ORDER.indexOf((char) ahead());
            if (order < 0) {
                return false;
            }
            next++;
            if (!readNumber()) {
                return false;
            }
            put((asked * 3 + order) * 100 + number);
            return true;
        }

        private void put(int step) {
            if (used < steps.length) {
                steps[used] = step;
                used++;
            }
        }

        /** The n of all clauses of a word that hold, together; without clauses of it what is told. */
        int sumOf(int word, int without, int[] known) {
            if (counts[word] == 0) {
                return without;
            }
            int sum = 0;
            for (int i = 0; i < clauses; i++) {
                if (words[i] == word && holds(i == 0 ? 0 : ends[i - 1], ends[i], known)) {
                    sum += numbers[i];
                }
            }
            return sum;
        }

        private boolean holds(int start, int end, int[] known) {
            // The truths not yet joined, the latest in the lowest bit; some 13 at most are open at once.
            int truths = 0;
            for (int i = start; i < end; i++) {
                int step = steps[i];
                int latest = truths & 1;
                if (step == NOT) {
                    truths ^= 1;
                } else if (step == AND) {
                    truths = truths >> 1 & (latest | ~1);
                } else if (step == OR) {
                    truths = truths >> 1 | latest;
                } else {
                    truths = truths << 1 | (isSo(step, known) ? 1 : 0);
                }
            }
            return (truths & 1) == 1;
        }

        private static boolean isSo(int step, int[] known) {
            int asked = step / 300;
            if (asked < 0 || asked >= known.length) {
                return false;
            }
            int order = step / 100 % 3;
            int limit = step % 100;
            return order == 0 ? known[asked] < limit
                    : order == 1 ? known[asked] == limit
                    : known[asked] > limit;
        }
    }

    /** All that an image keeps. */
    private static final class Hall {
        final Fan[] fans = new Fan[FANS];
        int fanCount = 0;
        final Sitters sitters = new Sitters();
        Room room = new Room();
        int rooms = 0;
        final int[] tape = new int[SIGNS];
        int signs = 0;
        int second = 0;
        int flown = 0;
        // Rows of three numbers: sitter, n, heat; fan, seconds, unused; fan, second, place.
        final int[] heats = new int[HEATS * 3];
        int heatRows = 0;
        final int[] rules = new int[RULES * 3];
        int ruleRows = 0;
        final int[] books = new int[BOOKS * 3];
        int bookRows = 0;

        void resemble(Hall other) {
            for (int f = 0; f < other.fanCount; f++) {
                fans[f] = copyOf(other.fans[f]);
            }
            fanCount = other.fanCount;
            sitters.resemble(other.sitters);
            room = other.room;
            rooms = other.rooms;
            System.arraycopy(other.tape, 0, tape, 0, tape.length);
            signs = other.signs;
            second = other.second;
            flown = other.flown;
            System.arraycopy(other.heats, 0, heats, 0, heats.length);
            heatRows = other.heatRows;
            System.arraycopy(other.rules, 0, rules, 0, rules.length);
            ruleRows = other.ruleRows;
            System.arraycopy(other.books, 0, books, 0, books.length);
            bookRows = other.bookRows;
        }

        private static Fan copyOf(Fan other) {
            if (other == null) {
                return null;
            }
            Fan copy = newFan(other.kind, other.number, other.v, other.from, other.to, other.pace);
            copy.resemble(other);
            return copy;
        }

        /** Null, if there is no such fan. */
        Fan fanOf(int fan) {
            return fan >= 0 && fan < fanCount ? fans[fan] : null;
        }

        int onMask() {
            int mask = 0;
            for (int f = 0; f < fanCount; f++) {
                Fan fan = fans[f];
                if (fan != null && fan.isOn) {
                    mask |= 1 << f;
                }
            }
            return mask;
        }

        /** The sitters are told apart from the hall's own, as a fan that is handed about follows them. */
        int reached(int mask, int t, Sitters where) {
            int places = 0;
            for (int f = 0; f < fanCount; f++) {
                Fan fan = fans[f];
                if (fan != null && (mask >> f & 1) == 1) {
                    places |= fan.reach(t, where);
                }
            }
            return places;
        }

        int meetersOf(int sitter, int t) {
            int met = 0;
            for (int f = 0; f < fanCount; f++) {
                Fan fan = fans[f];
                if (fan != null && fan.isOn && (fan.reach(t, sitters) >> sitters.place[sitter] & 1) == 1) {
                    met |= 1 << f;
                }
            }
            return met;
        }

        /** n seconds go from second t on, the fans of the mask being on. */
        void pass(Sitters who, int mask, int t, int n) {
            for (int i = t; i < t + n; i++) {
                who.sit(room, reached(mask, i, who), Integer.bitCount(mask), i);
            }
        }

        /** The fan that the rule has on in second i from now; -1: none. */
        int ruledFan(int i) {
            int all = 0;
            for (int r = 0; r < ruleRows; r++) {
                all += rules[r * 3 + 1];
            }
            int left = all > 0 ? i % all : 0;
            for (int r = 0; r < ruleRows; r++) {
                left -= rules[r * 3 + 1];
                if (left < 0) {
                    return rules[r * 3];
                }
            }
            return -1;
        }
    }
}
