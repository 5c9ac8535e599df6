import java.util.ArrayList;
import java.util.Arrays;
import java.util.List;
import java.util.function.Predicate;
import java.util.function.Supplier;

/**
 * The document's ==== 3 over all calls: what each number may be and what is answered beyond, which of several
 * refusals is told, and that neither a refusal nor a question changes anything.
 */
final class RefusalsTest {
    private static final Due due = new Due("RefusalsTest");
    private static final int NONE = OneFan.NONE, BAD = OneFan.BAD, STATE = OneFan.STATE, FULL = OneFan.FULL;
    private static final int LEAST = Integer.MIN_VALUE, MOST = Integer.MAX_VALUE;
    private static final int FANS = 4, SITTERS = 6;
    private static final long[] REFUSALS = {NONE, BAD, STATE, FULL, OneFan.NO, -10001, -10002};

    /** What one number of a call may be, some that it may not, and what is answered to these. */
    private record Numbers(long refusal, int[] good, int[] bad) {
        boolean isBad(int n) {
            return Arrays.stream(bad).anyMatch(b -> b == n);
        }
    }

    private interface Call {
        long on(OneFan x, int[] n);
    }

    public static void main(String[] args) {
        roomsFansSitters();
        secondsAndSettings();
        twoFansAndPapers();
        oddsAndRules();
        actsAndCounts();
        rowsAreTakenAway();
        full();
        stateOfRow();
        stateOfUndo();
        questionsChangeNothing();
        due.end();
    }

    private static Numbers in(int least, int most, long refusal) {
        return new Numbers(refusal, new int[] {least, most}, new int[] {LEAST, least - 1, most + 1, MOST});
    }

    private static Numbers fans() {
        return in(0, FANS - 1, NONE);
    }

    private static Numbers sitters() {
        return in(0, SITTERS - 1, NONE);
    }

    // ---- an object in use, and all that can be seen of it

    /** With rows and signs, an image and a trace, and room for one more of each but fans and sitters. */
    private static OneFan furnished() {
        OneFan x = roomy();
        x.fan(5, 4, 2, 8, 1);
        x.sitter(4, 71);
        return x;
    }

    /** The same with room for one more fan and one more sitter. */
    private static OneFan roomy() {
        OneFan x = Due.withRoom("hot 60;fly 2;warm 3 s<4;warm 1 k>2;cool 9 r<3");
        x.fan(6, 3, 1, 5, 2);
        x.row(0, 2, 9);
        x.fan(1, 2, 2, 6, 1);
        x.fan(4, 1, 3, 9, 2);
        x.on(2, false);
        for (int s = 0; s < SITTERS - 1; s++) {
            x.sitter(s * 2, 30 + 9 * s);
        }
        x.image();
        x.go(7);
        x.flown(5);
        x.see(1, 0, x.at(1, 1));
        x.see(2, 3, 50);
        x.rule(1, 2);
        x.rule(-1, 3);
        x.book(1, 6, 6);
        x.book(2, 4, 1);
        x.feed('h');
        x.act(0, 2, 5);
        return x;
    }

    private static OneFan crammed() {
        OneFan x = furnished();
        for (int i = 0; i < 4; i++) {
            x.see(3, 2, 40 + i);
        }
        x.rule(2, 9);
        x.rule(0, 1);
        for (int i = 0; i < 6; i++) {
            x.book(3, i, i);
        }
        for (int i = 1; i < 100; i++) {
            x.feed('x');
        }
        return x;
    }

    /** Changes FLOWN and goes back to the image at last: to be asked once of an object. */
    private static long[] seen(OneFan x) {
        List<Long> seen = new ArrayList<>();
        counted(x, seen);
        for (int n = 0; n < 20; n++) {
            seen.add((long) x.then(n, 0) * 1000 + x.then(n, 1));
            seen.add((long) x.trace(n));
        }
        for (int n = 1; n <= 30; n++) {
            seen.add((long) x.ruled(n, 0) * 100 + x.ruled(n, 1));
        }
        for (int s = 0; s < SITTERS; s++) {
            seen.add((long) x.sat(s));
        }
        seen.add((long) x.looked());
        seen.add((long) x.flown(0));
        x.undo();
        counted(x, seen);
        return seen.stream().mapToLong(Long::longValue).toArray();
    }

    private static void counted(OneFan x, List<Long> seen) {
        for (int what = 0; what < 8; what++) {
            seen.add((long) x.count(what));
            seen.add((long) x.told(what));
            for (int f = 0; f < FANS; f++) {
                seen.add((long) x.of(f, what));
            }
        }
        for (int what = 0; what < 4; what++) {
            for (int s = 0; s < SITTERS; s++) {
                seen.add((long) x.at(s, what));
            }
        }
    }

    private static void isUnchanged(String call, OneFan x, long[] untouched) {
        due.isTrue(call + " changes nothing", Arrays.equals(seen(x), untouched));
    }

    // ---- all ways to put good and bad numbers side by side

    private static void refuses(String name, Supplier<OneFan> made, Call call, Numbers... numbers) {
        refuses(name, made, 0, a -> false, call, numbers);
    }

    /**
     * Where all numbers are good, otherwise is answered, or, if that is 0, no refusal; isOdd are good numbers
     * that are BAD side by side.
     */
    private static void refuses(String name, Supplier<OneFan> made, long otherwise, Predicate<int[]> isOdd, Call call,
            Numbers... numbers) {
        long[] untouched = seen(made.get());
        int[] chosen = new int[numbers.length];
        int ways = 1;
        for (Numbers n : numbers) {
            ways *= n.good.length + n.bad.length;
        }
        for (int way = 0; way < ways; way++) {
            int rest = way;
            for (int i = 0; i < numbers.length; i++) {
                Numbers n = numbers[i];
                int k = rest % (n.good.length + n.bad.length);
                rest /= n.good.length + n.bad.length;
                chosen[i] = k < n.good.length ? n.good[k] : n.bad[k - n.good.length];
            }
            long want = refusal(numbers, chosen, isOdd.test(chosen));
            OneFan x = made.get();
            long got = call.on(x, chosen);
            String told = name + Arrays.toString(chosen);
            if (want == 0 && otherwise == 0) {
                due.isTrue(told + " is no refusal, but " + got, Arrays.stream(REFUSALS).noneMatch(r -> r == got));
                continue;
            }
            due.is(told, got, want == 0 ? otherwise : want);
            isUnchanged(told, x, untouched);
        }
    }

    /** NONE ahead of BAD, as all refusals are told in their order; 0: none of the two. */
    private static long refusal(Numbers[] numbers, int[] chosen, boolean isOdd) {
        long bad = isOdd ? BAD : 0;
        for (int i = 0; i < numbers.length; i++) {
            if (numbers[i].isBad(chosen[i])) {
                long refusal = numbers[i].refusal;
                if (refusal != BAD && refusal != -10002) {
                    return refusal;
                }
                bad = refusal;
            }
        }
        return bad;
    }

    // ---- the calls

    private static void roomsFansSitters() {
        refuses("feed", RefusalsTest::furnished, (x, n) -> x.feed(n[0]), in(0, 127, BAD));
        refuses("fan", RefusalsTest::roomy, 0, n -> n[2] > n[3], (x, n) -> x.fan(n[0], n[1], n[2], n[3], n[4]),
            in(0, 6, NONE), in(0, 9, BAD), in(0, 9, BAD), in(0, 9, BAD), in(1, 4, BAD));
        refuses("of", RefusalsTest::furnished, (x, n) -> x.of(n[0], n[1]), fans(), in(0, 6, NONE));
        refuses("turn", RefusalsTest::furnished, 0, n -> n[1] > n[2], (x, n) -> x.turn(n[0], n[1], n[2], n[3]),
            fans(), in(0, 9, BAD), in(0, 9, BAD), in(1, 4, BAD));
        refuses("on", RefusalsTest::furnished, (x, n) -> x.on(n[0], true), fans());
        refuses("on", RefusalsTest::furnished, (x, n) -> x.on(n[0], false), fans());
        refuses("sitter", RefusalsTest::roomy, (x, n) -> x.sitter(n[0], n[1]), in(0, 9, NONE), in(0, 99, BAD));
        refuses("at", RefusalsTest::furnished, (x, n) -> x.at(n[0], n[1]), sitters(), in(0, 3, NONE));
        refuses("move", RefusalsTest::furnished, (x, n) -> x.move(n[0], n[1]), sitters(), in(0, 9, NONE));
        refuses("heat", RefusalsTest::furnished, (x, n) -> x.heat(n[0], n[1]), sitters(), in(0, 99, BAD));
        refuses("told", RefusalsTest::furnished, (x, n) -> x.told(n[0]), in(0, 2, NONE));
        refuses("go", RefusalsTest::furnished, (x, n) -> x.go(n[0]), in(0, 60, BAD));
        refuses("is", RefusalsTest::furnished, (x, n) -> x.is(n[0], n[1]), fans(), in(0, 9999, BAD));
    }

    private static void secondsAndSettings() {
        Numbers whats = new Numbers(NONE, new int[] {0, 1, 10, 15, 20, 25},
            new int[] {LEAST, -1, 2, 9, 16, 19, 26, 30, MOST});
        Numbers either = in(0, 1, NONE);
        refuses("then", RefusalsTest::furnished, (x, n) -> x.then(n[0], n[1]), in(0, 60, BAD), whats);
        refuses("hottest", RefusalsTest::furnished, (x, n) -> x.hottest(n[0]), in(0, 60, BAD));
        refuses("tooHot", RefusalsTest::furnished, (x, n) -> x.tooHot(n[0]), sitters());
        refuses("set", RefusalsTest::furnished, (x, n) -> x.set(n[0], n[1], n[2]), fans(), in(1, 30, BAD), either);
        refuses("paced", RefusalsTest::furnished, (x, n) -> x.paced(n[0], n[1]), fans(), in(1, 30, BAD));
        refuses("seat", RefusalsTest::furnished, (x, n) -> x.seat(n[0], n[1], n[2]), sitters(), in(1, 30, BAD), either);
        refuses("change", RefusalsTest::furnished, (x, n) -> x.change(n[0]), in(1, 30, BAD));
        refuses("worth", RefusalsTest::furnished, (x, n) -> x.worth(n[0], n[1]),
            in(0, FANS - 1, -10001), in(1, 60, -10002));
        refuses("round", RefusalsTest::furnished, (x, n) -> x.round(n[0], n[1]), in(1, 60, BAD), either);
    }

    private static void twoFansAndPapers() {
        refuses("meets", RefusalsTest::furnished, 0, n -> n[0] == n[1], (x, n) -> x.meets(n[0], n[1], n[2]),
            fans(), fans(), in(1, 60, BAD));
        refuses("late", RefusalsTest::furnished, 0, n -> n[0] == n[1], (x, n) -> x.late(n[0], n[1], n[2], n[3]),
            fans(), fans(), in(1, 60, BAD), in(0, 1, NONE));
        refuses("period", RefusalsTest::furnished, (x, n) -> x.period(n[0]), fans());
        refuses("papers", RefusalsTest::furnished, (x, n) -> x.papers(n[0]), in(1, 60, BAD));
        refuses("flown", RefusalsTest::furnished, (x, n) -> x.flown(n[0]), in(0, 1023, BAD));
        refuses("which", RefusalsTest::furnished, (x, n) -> x.which(n[0]), in(1, 60, BAD));
        refuses("see", RefusalsTest::furnished, (x, n) -> x.see(n[0], n[1], n[2]),
            sittersOfRows(), in(0, 60, BAD), in(0, 99, BAD));
        refuses("sat", RefusalsTest::furnished, (x, n) -> x.sat(n[0]), sitters());
    }

    private static void oddsAndRules() {
        long no = OneFan.NO;
        refuses("odds", RefusalsTest::furnished, (x, n) -> x.odds(n[0], n[1], n[2]),
            in(0, SITTERS - 1, no), in(1, 30, no), in(0, 1, no));
        refuses("mean", RefusalsTest::furnished, (x, n) -> x.mean(n[0], n[1], n[2]),
            in(0, FANS - 1, no), in(1, 60, no), in(0, 1, no));
        refuses("even", RefusalsTest::furnished, (x, n) -> x.even(n[0]), in(0, 60, BAD));
        refuses("rule", RefusalsTest::furnished, (x, n) -> x.rule(n[0], n[1]), in(-1, FANS - 1, NONE), secondsOfRule());
        refuses("ruled", RefusalsTest::furnished, (x, n) -> x.ruled(n[0], n[1]), in(1, 60, BAD), in(0, 1, NONE));
        refuses("book", RefusalsTest::furnished, (x, n) -> x.book(n[0], n[1], n[2]),
            fansOfBook(), in(0, 999, BAD), in(0, 9, NONE));
    }

    // -1 as the number of a row's own takes the rows away, and is no refusal.

    private static Numbers sittersOfRows() {
        return new Numbers(NONE, new int[] {0, SITTERS - 1}, new int[] {LEAST, -2, SITTERS, MOST});
    }

    private static Numbers secondsOfRule() {
        return new Numbers(BAD, new int[] {1, 20}, new int[] {LEAST, -2, 0, 21, MOST});
    }

    private static Numbers fansOfBook() {
        return new Numbers(NONE, new int[] {0, FANS - 1}, new int[] {LEAST, -2, FANS, MOST});
    }

    private static void actsAndCounts() {
        refuses("trace", RefusalsTest::furnished, (x, n) -> x.trace(n[0]), in(0, 4, NONE));
        refuses("as", RefusalsTest::furnished, (x, n) -> x.as(n[0], n[1]), fans(), in(0, 6, NONE));
        refuses("count", RefusalsTest::furnished, (x, n) -> x.count(n[0]), in(0, 7, NONE));
    }

    private static void rowsAreTakenAway() {
        int[] others = {LEAST, -2, -1, 0, 1, 61, 100, 1000, MOST};
        for (Supplier<OneFan> made : List.<Supplier<OneFan>>of(OneFan::new, RefusalsTest::furnished, RefusalsTest::crammed)) {
            for (int one : others) {
                for (int other : others) {
                    OneFan x = made.get();
                    due.is("see -1, " + one + ", " + other, x.see(-1, one, other), 0);
                    due.is("book -1, " + one + ", " + other, x.book(-1, one, other), 0);
                    due.is("rule " + one + ", -1", x.rule(one, -1), 0);
                    due.are("no rows", 3, x::count, 0, 0, 0);
                }
            }
        }
    }

    private static void full() {
        Supplier<OneFan> made = RefusalsTest::crammed;
        refuses("feed, full, ", made, FULL, n -> false, (x, n) -> x.feed(n[0]), in(0, 127, BAD));
        refuses("fan, full, ", made, FULL, n -> n[2] > n[3], (x, n) -> x.fan(n[0], n[1], n[2], n[3], n[4]),
            in(0, 6, NONE), in(0, 9, BAD), in(0, 9, BAD), in(0, 9, BAD), in(1, 4, BAD));
        refuses("sitter, full, ", made, FULL, n -> false, (x, n) -> x.sitter(n[0], n[1]), in(0, 9, NONE), in(0, 99, BAD));
        refuses("see, full, ", made, FULL, n -> false, (x, n) -> x.see(n[0], n[1], n[2]),
            sittersOfRows(), in(0, 60, BAD), in(0, 99, BAD));
        refuses("rule, full, ", made, FULL, n -> false, (x, n) -> x.rule(n[0], n[1]),
            in(-1, FANS - 1, NONE), secondsOfRule());
        refuses("book, full, ", made, FULL, n -> false, (x, n) -> x.book(n[0], n[1], n[2]),
            fansOfBook(), in(0, 999, BAD), in(0, 9, NONE));
        fullOfRooms("");
        fullOfRooms("fly 9");
        fullOfRooms("fly x");
    }

    private static void fullOfRooms(String tape) {
        Supplier<OneFan> made = () -> {
            OneFan x = new OneFan();
            for (int i = 0; i < 5; i++) {
                Due.fed(x, "hot 1").room();
            }
            return Due.fed(x, tape);
        };
        refuses("room, full, with " + tape, made, FULL, n -> false, (x, n) -> x.room());
    }

    private static void stateOfRow() {
        Numbers ks = in(0, 3, NONE);
        for (int kind = 0; kind <= 6; kind++) {
            int one = kind;
            Supplier<OneFan> made = () -> {
                OneFan x = new OneFan();
                x.fan(one, 1, 2, 3, 4);
                return x;
            };
            refuses("row of kind " + kind, made, kind == 6 ? 0 : STATE, n -> false, (x, n) -> x.row(n[0], n[1], n[2]),
                in(0, 0, NONE), ks, in(0, 9, BAD));
        }
    }

    private static void stateOfUndo() {
        Supplier<OneFan> made = () -> {
            OneFan x = new OneFan();
            x.fan(2, 0, 1, 4, 1);
            x.sitter(3, 40);
            x.go(5);
            return x;
        };
        refuses("undo, no image", made, STATE, n -> false, (x, n) -> x.undo());
    }

    // ---- questions

    private static void questionsChangeNothing() {
        for (Supplier<OneFan> made : List.<Supplier<OneFan>>of(RefusalsTest::furnished, RefusalsTest::crammed)) {
            List<Call> questions = List.of(
                (x, n) -> x.of(n[0] % 4, n[1] % 7), (x, n) -> x.at(n[0], n[1] % 4), (x, n) -> x.told(n[0] % 3),
                (x, n) -> x.is(n[0] % 4, n[1]), (x, n) -> x.then(n[1], n[0] % 2), (x, n) -> x.then(n[1], 10 + n[0]),
                (x, n) -> x.then(n[1], 20 + n[0]), (x, n) -> x.hottest(n[1]), (x, n) -> x.tooHot(n[0]),
                (x, n) -> x.set(n[0] % 4, n[1], 0), (x, n) -> x.set(n[0] % 4, n[1], 1),
                (x, n) -> x.paced(n[0] % 4, n[1]), (x, n) -> x.seat(n[0], n[1], 0), (x, n) -> x.seat(n[0], n[1], 1),
                (x, n) -> x.change(n[1]), (x, n) -> x.worth(n[0] % 4, n[1]), (x, n) -> x.round(n[1], n[0] % 2),
                (x, n) -> x.meets(n[0] % 4, (n[0] + 1) % 4, n[1]), (x, n) -> x.late(n[0] % 4, (n[0] + 1) % 4, n[1], 0),
                (x, n) -> x.period(n[0] % 4), (x, n) -> x.papers(n[1]), (x, n) -> x.which(n[1]), (x, n) -> x.sat(n[0]),
                (x, n) -> x.odds(n[0], n[1], 0), (x, n) -> x.mean(n[0] % 4, n[1], 1), (x, n) -> x.even(n[1]),
                (x, n) -> x.ruled(n[1], 0), (x, n) -> x.ruled(n[1], 1), (x, n) -> x.looked(),
                (x, n) -> x.trace(n[0]), (x, n) -> x.as(n[0] % 4, n[1] % 7), (x, n) -> x.count(n[1] % 8));
            long[] untouched = seen(made.get());
            for (int q = 0; q < questions.size(); q++) {
                for (int number = 0; number < SITTERS; number++) {
                    for (int n : new int[] {1, 2, 13, 30}) {
                        OneFan x = made.get();
                        int[] numbers = {number, n};
                        long first = questions.get(q).on(x, numbers);
                        String told = "question " + q + " of " + number + ", " + n;
                        due.is(told + " again", questions.get(q).on(x, numbers), first);
                        isUnchanged(told, x, untouched);
                    }
                }
            }
        }
    }
}
