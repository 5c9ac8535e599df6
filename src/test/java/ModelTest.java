import java.util.Random;

/** Long runs of calls, each answer held against the model's; by chance, but always the same ones. */
final class ModelTest {
    private static final Due due = new Due("ModelTest");
    private static final int RUNS = 200;
    private static final int CALLS = 512;

    private final Random random;
    private final OneFan x = new OneFan();
    private final Model m = new Model();
    private int left = CALLS;

    private ModelTest(long seed) {
        random = new Random(seed);
    }

    public static void main(String[] args) {
        faults();
        for (int run = 0; run < RUNS; run++) {
            new ModelTest(run).run();
        }
        due.end();
    }

    // ---- texts of rooms

    private static String number(Random r) {
        return String.valueOf(r.nextInt(4) == 0 ? r.nextInt(100) : r.nextInt(10));
    }

    private static String factor(Random r, int depth) {
        switch (r.nextInt(depth > 3 ? 1 : 4)) {
            case 1: return "!" + factor(r, depth + 1);
            case 2: return "(" + any(r, depth + 1) + ")";
            default: return "" + "sphrtk".charAt(r.nextInt(6)) + "<=>".charAt(r.nextInt(3)) + number(r);
        }
    }

    private static String any(Random r, int depth) {
        StringBuilder text = new StringBuilder(factor(r, depth));
        for (int i = r.nextInt(3); i > 0; i--) {
            text.append(r.nextBoolean() ? '|' : '&').append(factor(r, depth));
        }
        return text.toString();
    }

    private static String clause(Random r) {
        String n = number(r);
        switch (r.nextInt(6)) {
            case 0: return "hot " + n;
            case 1: return "fly " + r.nextInt(6);
            case 2: case 3: return "warm " + r.nextInt(9) + " " + any(r, 0);
            default: return "cool " + r.nextInt(12) + " " + any(r, 0);
        }
    }

    private static String room(Random r) {
        StringBuilder text = new StringBuilder(clause(r));
        for (int i = r.nextInt(12); i > 0; i--) {
            text.append(';').append(clause(r));
        }
        return text.toString();
    }

    private static String spoilt(Random r, String text) {
        StringBuilder spoilt = new StringBuilder(text);
        for (int i = r.nextInt(3); i > 0 && spoilt.length() > 0; i--) {
            int at = r.nextInt(spoilt.length());
            char sign = "sphrtk<=>!()&|;  0129wcfx".charAt(r.nextInt(25));
            switch (r.nextInt(4)) {
                case 0: spoilt.deleteCharAt(at); break;
                case 1: spoilt.setLength(at); break;
                case 2: spoilt.insert(at, sign); break;
                default: spoilt.setCharAt(at, sign); break;
            }
        }
        return spoilt.toString();
    }

    private static void faults() {
        Random r = new Random(1);
        for (int i = 0; i < 20000; i++) {
            String text = spoilt(r, room(r));
            text = text.substring(0, Math.min(100, text.length()));
            int fault = Model.fault(text);
            due.is("room of \"" + text + "\"", Due.fed(new OneFan(), text).room(), fault < 0 ? 0 : -10 - fault);
        }
    }

    // ---- runs

    /** Mostly a number that will do, now and then one just beyond or far off. */
    private int in(int least, int most) {
        switch (random.nextInt(40)) {
            case 0: return least - 1;
            case 1: return most + 1;
            case 2: return least;
            case 3: return most;
            case 4: return random.nextBoolean() ? Integer.MAX_VALUE : Integer.MIN_VALUE;
            default: return least + random.nextInt(most - least + 1);
        }
    }

    private int fan() {
        return in(0, random.nextInt(8) == 0 ? 3 : Math.max(0, m.count(0) - 1));
    }

    private int sitter() {
        return in(0, random.nextInt(8) == 0 ? 5 : Math.max(0, m.count(1) - 1));
    }

    private void told(String call, long got, long want) {
        due.is(call + " with " + left + " calls left", got, want);
        left--;
    }

    private void run() {
        int sitters = random.nextInt(7);
        for (int i = 0; i < sitters; i++) {
            int place = random.nextInt(10);
            int heat = random.nextInt(100);
            told("sitter", x.sitter(place, heat), m.sitter(place, heat));
        }
        int fans = random.nextInt(5);
        for (int i = 0; i < fans; i++) {
            addFan();
        }
        while (left > 120) {
            int kind = random.nextInt(48);
            if (kind == 0) {
                readRoom();
            } else if (kind < 16) {
                change(kind);
            } else if (kind < 32) {
                askOfSeconds(kind);
            } else {
                askOfAll(kind);
            }
        }
    }

    private void addFan() {
        int kind = in(0, 6);
        int v = in(0, 9);
        int from = in(0, 9);
        int to = in(Math.max(0, Math.min(9, from)), 9);
        int pace = in(1, 4);
        told("fan", x.fan(kind, v, from, to, pace), m.fan(kind, v, from, to, pace));
    }

    private void readRoom() {
        String text = random.nextInt(4) == 0 ? spoilt(random, room(random)) : room(random);
        text = text.substring(0, Math.min(text.length(), 100));
        int last = text.lastIndexOf(';');
        if (Model.fault(text) >= 0 && last > 0 && random.nextInt(4) != 0) {
            text = text.substring(0, last);
        }
        for (char sign : text.toCharArray()) {
            told("feed", x.feed(sign), m.feed(sign));
        }
        told("room", x.room(), m.room());
    }

    private void change(int kind) {
        int f = fan();
        int s = sitter();
        switch (kind) {
            case 1: {
                int sign = in(0, 127);
                if (random.nextInt(8) == 0) {
                    told("feed", x.feed(sign), m.feed(sign));
                    told("room", x.room(), m.room());
                }
                break;
            }
            case 2: if (random.nextInt(4) == 0) addFan(); break;
            case 3: {
                int from = in(0, 9);
                int to = in(Math.max(0, Math.min(9, from)), 9);
                int pace = in(1, 4);
                told("turn", x.turn(f, from, to, pace), m.turn(f, from, to, pace));
                break;
            }
            case 4: {
                boolean is = random.nextInt(3) != 0;
                told("on", x.on(f, is), m.on(f, is));
                break;
            }
            case 5: case 6: {
                int k = in(0, 3);
                int n = in(0, 9);
                told("row", x.row(f, k, n), m.row(f, k, n));
                break;
            }
            case 7: {
                int place = in(0, 9);
                int heat = in(0, 99);
                if (random.nextInt(4) == 0) told("sitter", x.sitter(place, heat), m.sitter(place, heat));
                break;
            }
            case 8: {
                int place = in(0, 9);
                told("move", x.move(s, place), m.move(s, place));
                break;
            }
            case 9: {
                int heat = in(0, 99);
                told("heat", x.heat(s, heat), m.heat(s, heat));
                break;
            }
            case 10: case 11: {
                int n = random.nextBoolean() ? in(0, 9) : in(0, 60);
                told("go", x.go(n), m.go(n));
                break;
            }
            case 12: {
                int bits = random.nextInt(3) == 0 ? in(0, 1023) : m.papers(1 + random.nextInt(60));
                told("flown", x.flown(bits), m.flown(bits));
                break;
            }
            case 13: if (random.nextInt(3) == 0) told("image", x.image(), m.image()); break;
            case 14: if (random.nextInt(4) == 0) told("undo", x.undo(), m.undo()); break;
            default: addRows(f, s);
        }
    }

    private void addRows(int f, int s) {
        int n = in(0, 60);
        int heat = random.nextBoolean() ? in(0, 99) : m.then(Math.max(0, Math.min(60, n)), 10 + s);
        int seer = random.nextInt(6) == 0 ? -1 : s;
        told("see", x.see(seer, n, heat), m.see(seer, n, heat));
        int ruler = random.nextInt(5) == 0 ? -1 : f;
        int seconds = random.nextInt(8) == 0 ? -1 : random.nextBoolean() ? in(1, 4) : in(1, 20);
        told("rule", x.rule(ruler, seconds), m.rule(ruler, seconds));
        int booker = random.nextInt(10) == 0 ? -1 : f;
        int second = in(0, 999);
        int place = random.nextInt(4) == 0 ? in(0, 9) : m.is(f, second);
        told("book", x.book(booker, second, place), m.book(booker, second, place));
    }

    private void askOfSeconds(int kind) {
        int f = fan();
        int s = sitter();
        int n = random.nextBoolean() ? in(1, 10) : in(1, 30);
        int what = in(0, 1);
        switch (kind) {
            case 16: case 17: {
                int asked = random.nextInt(8) == 0 ? in(0, 30) : random.nextInt(3) * 10 + s;
                int till = random.nextBoolean() ? n : in(0, 60);
                told("then", x.then(till, asked), m.then(till, asked));
                break;
            }
            case 18: told("hottest", x.hottest(n), m.hottest(n)); break;
            case 19: told("tooHot", x.tooHot(s), m.tooHot(s)); break;
            case 20: case 21: told("set", x.set(f, n, what), m.set(f, n, what)); break;
            case 22: told("paced", x.paced(f, n), m.paced(f, n)); break;
            case 23: told("seat", x.seat(s, n, what), m.seat(s, n, what)); break;
            case 24: told("change", x.change(n), m.change(n)); break;
            case 25: {
                int till = in(1, 60);
                told("worth", x.worth(f, till), m.worth(f, till));
                break;
            }
            case 26: {
                int till = in(1, 60);
                told("round", x.round(till, what), m.round(till, what));
                break;
            }
            case 27: {
                int other = fan();
                int till = in(1, 60);
                told("meets", x.meets(f, other, till), m.meets(f, other, till));
                break;
            }
            case 28: case 29: {
                int other = fan();
                int till = in(1, 60);
                told("late", x.late(f, other, till, what), m.late(f, other, till, what));
                break;
            }
            case 30: told("sat", x.sat(s), m.sat(s)); break;
            default: told("period", x.period(f), m.period(f));
        }
    }

    private void askOfAll(int kind) {
        int f = fan();
        int s = sitter();
        int part = in(0, 1);
        switch (kind) {
            case 32: {
                int n = in(1, 60);
                told("papers", x.papers(n), m.papers(n));
                break;
            }
            case 33: {
                int n = in(1, 60);
                told("which", x.which(n), m.which(n));
                break;
            }
            case 34: {
                int n = in(1, 30);
                told("odds", x.odds(s, n, part), m.odds(s, n, part));
                break;
            }
            case 35: {
                int n = in(1, 60);
                told("mean", x.mean(f, n, part), m.mean(f, n, part));
                break;
            }
            case 36: {
                int n = in(0, 60);
                told("even", x.even(n), m.even(n));
                break;
            }
            case 37: case 38: {
                int n = in(1, 60);
                told("ruled", x.ruled(n, part), m.ruled(n, part));
                break;
            }
            case 39: told("looked", x.looked(), m.looked()); break;
            case 40: {
                int act = in(0, 2);
                int y = random.nextBoolean() ? random.nextInt() : in(-9, 9);
                told("act", x.act(f, act, y), m.act(f, act, y));
                break;
            }
            case 41: {
                int i = in(0, 7);
                told("trace", x.trace(i), m.trace(i));
                break;
            }
            case 42: {
                int k = in(0, 6);
                told("as", x.as(f, k), m.as(f, k));
                break;
            }
            case 43: {
                int what = in(0, 7);
                told("count", x.count(what), m.count(what));
                break;
            }
            case 44: {
                int what = in(0, 6);
                told("of", x.of(f, what), m.of(f, what));
                break;
            }
            case 45: {
                int what = in(0, 3);
                told("at", x.at(s, what), m.at(s, what));
                break;
            }
            case 46: {
                int what = in(0, 2);
                told("told", x.told(what), m.told(what));
                break;
            }
            default: {
                int second = in(0, 9999);
                told("is", x.is(f, second), m.is(f, second));
            }
        }
    }
}
