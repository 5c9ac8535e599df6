/** Promises 28 to 45. */
final class PapersOddsActsTest {
    private static final Due due = new Due("PapersOddsActsTest");
    private static final int NONE = OneFan.NONE, BAD = OneFan.BAD, STATE = OneFan.STATE, FULL = OneFan.FULL;
    private static final int FAN = 0, SWING = 1, TURN = 2, HOLD = 3, DOUBLE = 4, HANDED = 5, TOLD = 6;

    public static void main(String[] args) {
        papers();
        papersByWhichever();
        flown();
        which();
        see();
        sat();
        odds();
        mean();
        meanOfWhoFollows();
        even();
        rule();
        ruled();
        ruledByFourRows();
        book();
        looked();
        lookedAtWhoFollows();
        act();
        actFlipsBits();
        actWraps();
        trace();
        as();
        image();
        undo();
        undoOfSix();
        undoOfRows();
        undoOfAllRows();
        undoOfNew();
        count();
        due.end();
    }

    // Promise 28
    private static void papers() {
        OneFan x = new OneFan();
        due.is("no fans", x.papers(60), 0);
        due.is("n 0", x.papers(0), BAD);
        due.is("n 61", x.papers(61), BAD);
        due.is("n -1", x.papers(-1), BAD);
        x.fan(FAN, 0, 4, 4, 1);
        due.are("3 seconds", 1, x::papers, 0, 0, 16, 16);
        x.on(0, false);
        due.is("off", x.papers(60), 0);
        x.fan(TURN, 0, 0, 3, 3);
        due.are("turn", 5, x::papers, 1, 3, 3, 3, 7, 7, 7, 15);
        x.go(1);
        due.are("turn, from second 1 on", 3, x::papers, 0, 0, 2, 2, 2, 6);
        x.turn(1, 0, 3, 2);
        due.is("two seconds at each", x.papers(60), 0);
        x.turn(1, 9, 9, 1);
        due.is("the last place", x.papers(3), 512);
        x.fan(DOUBLE, 0, 0, 0, 1);
        for (int again = 0; again < 3; again++) {
            due.is("two seconds, and anew in each question", x.papers(2), 0);
        }
        due.is("the first places", x.papers(3), 512 + 3);

        OneFan y = Due.withRoom("fly 0");
        y.fan(TURN, 0, 0, 9, 1);
        due.are("one second", 1, y::papers, 1, 3, 7);
        due.is("room", Due.fed(y, "fly 60").room(), 1);
        y.turn(0, 5, 5, 1);
        due.are("60 seconds", 59, y::papers, 0, 32, BAD);
        due.is("room", Due.fed(y, "fly 61").room(), 2);
        due.is("61 seconds", y.papers(60), 0);
    }

    private static void papersByWhichever() {
        OneFan x = new OneFan();
        x.fan(TURN, 0, 0, 1, 1);
        due.is("every other second", x.papers(60), 0);
        x.fan(TOLD, 0, 0, 0, 1);
        x.row(1, 0, 1);
        x.row(1, 2, 1);
        due.is("by turns", x.papers(3), 3);
        x.on(0, false);
        due.is("one off", x.papers(60), 0);
        x.fan(DOUBLE, 0, 8, 9, 3);
        due.is("wide", x.papers(3), 768);
        x.turn(2, 9, 9, 3);
        due.is("wide at the last place", x.papers(3), 512);
        x.fan(HANDED, 0, 0, 0, 1);
        x.sitter(6, 0);
        x.sitter(7, 0);
        due.is("handed", x.papers(12), 512 + 64);
        due.is("handed", x.papers(13), 512 + 64 + 128);
    }

    // Promise 29
    private static void flown() {
        OneFan x = new OneFan();
        due.is("flown", x.flown(1023), 0);
        due.is("flown", x.flown(5), 1023);
        due.is("1024", x.flown(1024), BAD);
        due.is("-1", x.flown(-1), BAD);
        due.is("flown", x.flown(0), 5);
    }

    // Promise 30
    private static void which() {
        OneFan x = new OneFan();
        due.is("no fans", x.which(5), 0);
        x.fan(FAN, 0, 4, 4, 1);
        x.fan(HOLD, 5, 0, 0, 1);
        x.fan(DOUBLE, 0, 4, 4, 1);
        x.fan(FAN, 0, 4, 4, 1);
        x.on(1, false);
        due.is("none fly in one second", x.which(1), 15);
        due.is("none fly in two seconds", x.which(2), 15);
        due.is("some fly in three", x.which(3), 0);
        x.flown(16);
        due.is("two alike", x.which(3), 9);
        x.flown(32);
        due.is("one that is off", x.which(3), 2);
        x.flown(48);
        due.is("the wide one", x.which(60), 4);
        x.flown(49);
        due.is("just those", x.which(60), 0);
        due.is("n 0", x.which(0), BAD);
        due.is("n 61", x.which(61), BAD);
        due.is("still off", x.of(1, 5), 0);
        due.is("still on", x.of(0, 5), 1);
    }

    // Promise 31
    private static void see() {
        OneFan x = new OneFan();
        due.is("none at all", x.see(-1, 99, -99), 0);
        due.is("nobody", x.see(0, 0, 0), NONE);
        x.sitter(0, 50);
        due.is("sitter 1", x.see(1, 61, 100), NONE);
        due.is("sitter -2", x.see(-2, 0, 0), NONE);
        due.is("n -1", x.see(0, -1, 0), BAD);
        due.is("n 61", x.see(0, 61, 0), BAD);
        due.is("heat -1", x.see(0, 0, -1), BAD);
        due.is("heat 100", x.see(0, 0, 100), BAD);
        for (int i = 1; i <= 6; i++) {
            due.is("see", x.see(0, i == 1 ? 60 : 0, i == 2 ? 99 : 0), i);
        }
        due.is("full", x.see(0, 0, 0), FULL);
        due.is("full and n", x.see(0, 61, 0), BAD);
        due.is("full and sitter", x.see(1, 0, 0), NONE);
        due.is("count(3)", x.count(3), 6);
        due.is("none then", x.see(-1, 0, 0), 0);
        due.is("count(3)", x.count(3), 0);
        due.is("see", x.see(0, 0, 0), 1);
    }

    // Promise 32
    private static void sat() {
        OneFan x = new OneFan();
        x.fan(FAN, 0, 4, 4, 1);
        x.sitter(7, 50);
        x.sitter(7, 50);
        due.is("no rows", x.sat(0), 1023);
        x.see(0, 1, 47);
        due.is("by the fan", x.sat(0), 16);
        due.is("of that one alone", x.sat(1), 1023);
        x.see(1, 2, 54);
        due.is("by the fan", x.sat(0), 16);
        due.is("not by the fan", x.sat(1), 1023 - 16);
        x.see(0, 3, 44);
        due.is("both are so", x.sat(0), 16);
        x.see(0, 3, 45);
        due.is("all are to be so", x.sat(0), 0);
        x.see(-1, 0, 0);
        x.see(0, 0, 50);
        due.is("now", x.sat(0), 1023);
        x.see(0, 0, 49);
        due.is("now", x.sat(0), 0);
        x.see(-1, 0, 0);
        for (int i = 0; i < 5; i++) {
            x.see(i == 3 ? 1 : 0, 0, 50);
        }
        due.is("five are so", x.sat(0), 1023);
        x.see(0, 1, 52);
        due.is("the sixth", x.sat(0), 1023 - 16);
        due.is("sat(2)", x.sat(2), NONE);
        due.is("sat(-1)", x.sat(-1), NONE);
        due.is("place, unchanged", x.at(0, 0), 7);

        OneFan y = Due.withRoom("warm 1 p=0;warm 3 p=9;warm 2 p=5;cool 1 s=0");
        y.fan(HANDED, 0, 0, 0, 1);
        y.sitter(3, 50);
        y.see(0, 2, 54);
        due.is("the handed fan follows", y.sat(0), 512);
        y.see(-1, 0, 0);
        y.see(0, 2, 50);
        due.is("the handed fan follows", y.sat(0), 1);
    }

    private static void oddsAre(OneFan x, int sitter, int n, int above, int below) {
        due.is("odds " + sitter + " " + n, x.odds(sitter, n, 0), above);
        due.is("odds " + sitter + " " + n, x.odds(sitter, n, 1), below);
    }

    // Promise 33
    private static void odds() {
        OneFan x = new OneFan();
        x.fan(TURN, 0, 0, 3, 1);
        x.sitter(2, 0);
        x.sitter(5, 0);
        x.go(7);
        oddsAre(x, 0, 1, 1, 4);
        oddsAre(x, 0, 2, 1, 2);
        oddsAre(x, 0, 3, 3, 4);
        oddsAre(x, 0, 4, 1, 1);
        oddsAre(x, 1, 30, 0, 1);
        x.turn(0, 0, 9, 4);
        // At 2 in seconds 8 .. 11, at 0 in 0 .. 3 and 40 .. 43.
        oddsAre(x, 0, 1, 1, 5);
        oddsAre(x, 0, 3, 3, 10);
        x.move(1, 0);
        oddsAre(x, 1, 30, 13, 20);
        x.fan(DOUBLE, 0, 1, 1, 1);
        oddsAre(x, 0, 1, 1, 1);
        x.on(1, false);
        x.on(0, false);
        oddsAre(x, 0, 30, 0, 1);
        due.is("n 0", x.odds(0, 0, 0), OneFan.NO);
        due.is("n 31", x.odds(0, 31, 0), OneFan.NO);
        due.is("part 2", x.odds(0, 1, 2), OneFan.NO);
        due.is("part -1", x.odds(0, 1, -1), OneFan.NO);
        due.is("sitter 2", x.odds(2, 1, 0), OneFan.NO);
        due.is("sitter -1", x.odds(-1, 1, 1), OneFan.NO);
    }

    private static void meanIs(OneFan x, int fan, int n, int above, int below) {
        due.is("mean " + fan + " " + n, x.mean(fan, n, 0), above);
        due.is("mean " + fan + " " + n, x.mean(fan, n, 1), below);
    }

    // Promise 34
    private static void mean() {
        OneFan x = new OneFan();
        x.fan(TURN, 0, 0, 3, 1);
        x.fan(FAN, 0, 9, 9, 1);
        meanIs(x, 0, 1, 0, 1);
        meanIs(x, 0, 4, 3, 2);
        meanIs(x, 0, 3, 1, 1);
        meanIs(x, 1, 60, 9, 1);
        x.go(2);
        meanIs(x, 0, 3, 5, 3);
        x.on(0, false);
        meanIs(x, 0, 1, 2, 1);
        meanIs(x, 0, 60, 3, 2);
        // 2 3 0 1, fourteen times, and 2 3 0
        meanIs(x, 0, 59, 89, 59);
        due.is("n 0", x.mean(0, 0, 0), OneFan.NO);
        due.is("n 61", x.mean(0, 61, 0), OneFan.NO);
        due.is("part 2", x.mean(0, 1, 2), OneFan.NO);
        due.is("part -1", x.mean(0, 1, -1), OneFan.NO);
        due.is("fan 2", x.mean(2, 1, 0), OneFan.NO);
        due.is("fan -1", x.mean(-1, 1, 0), OneFan.NO);
    }

    private static void meanOfWhoFollows() {
        OneFan x = new OneFan();
        x.fan(HANDED, 0, 4, 4, 1);
        x.image();
        meanIs(x, 0, 60, 4, 1);
        x.sitter(9, 0);
        x.sitter(2, 0);
        meanIs(x, 0, 20, 11, 2);
        x.go(5);
        // five seconds at 9, one at 2
        meanIs(x, 0, 6, 47, 6);
    }

    // Promise 35
    private static void even() {
        OneFan x = new OneFan();
        due.is("nobody", x.even(0), -5);
        due.is("n 61, nobody", x.even(61), BAD);
        due.is("n -1, nobody", x.even(-1), BAD);
        x.sitter(2, 50);
        due.is("one", x.even(5), 0);
        x.sitter(3, 70);
        x.sitter(3, 60);
        due.is("now", x.even(0), 20);
        x.fan(FAN, 0, 3, 3, 1);
        due.are("behind", 1, x::even, 15, 11, 64 - 54);
        due.is("n 60", x.even(60), 99 - 99);
    }

    // Promise 36
    private static void rule() {
        OneFan x = new OneFan();
        due.is("none at all", x.rule(77, -1), 0);
        due.is("no fans", x.rule(0, 1), NONE);
        due.is("none on", x.rule(-1, 1), 1);
        x.fan(FAN, 0, 0, 0, 1);
        due.is("fan -2", x.rule(-2, 0), NONE);
        due.is("fan 1", x.rule(1, 21), NONE);
        due.is("seconds 0", x.rule(0, 0), BAD);
        due.is("seconds 21", x.rule(-1, 21), BAD);
        due.is("seconds -2", x.rule(0, -2), BAD);
        due.is("rule", x.rule(0, 20), 2);
        due.is("rule", x.rule(0, 1), 3);
        due.is("rule", x.rule(-1, 1), 4);
        due.is("full", x.rule(0, 1), FULL);
        due.is("full and seconds", x.rule(0, 21), BAD);
        due.is("full and fan", x.rule(1, 1), NONE);
        due.is("count(4)", x.count(4), 4);
        due.is("none then", x.rule(0, -1), 0);
        due.is("count(4)", x.count(4), 0);
        due.is("rule", x.rule(0, 1), 1);
    }

    // Promise 37
    private static void ruled() {
        OneFan x = new OneFan();
        x.fan(FAN, 0, 2, 2, 1);
        x.fan(FAN, 0, 5, 5, 1);
        x.rule(0, 1);
        due.is("nobody", x.ruled(4, 0), -5);
        due.is("nobody", x.ruled(4, 1), -5);
        x.rule(0, -1);
        x.sitter(2, 50);
        x.sitter(5, 50);
        due.is("no rows", x.ruled(4, 0), -5);
        due.is("no rows", x.ruled(4, 1), -5);
        due.is("no rows and n", x.ruled(0, 1), BAD);
        x.rule(0, 1);
        due.is("0 alone: 44 58", x.ruled(4, 0), 58);
        due.is("no changes", x.ruled(60, 1), 0);
        x.rule(1, 1);
        x.on(1, false);
        due.is("by turns: 48 48", x.ruled(4, 0), 48);
        due.are("changes", 1, n -> x.ruled(n, 1), 0, 1, 2, 3, 4);
        due.is("still off", x.of(1, 5), 0);
        x.rule(0, -1);
        x.rule(-1, 2);
        x.rule(0, 2);
        x.heat(1, 0);
        due.are("none, then 0", 1, n -> x.ruled(n, 0), 52, 54, 51, 49, 51);
        due.are("changes", 1, n -> x.ruled(n, 1), 0, 0, 1, 1, 2, 2, 3);
        x.rule(0, -1);
        x.rule(0, 1);
        x.rule(0, 2);
        x.rule(1, 1);
        due.is("the same one on is no change", x.ruled(8, 1), 3);
        x.go(1);
        due.is("from now on", x.ruled(4, 1), 1);
        due.is("what 2", x.ruled(61, 2), NONE);
        due.is("what -1", x.ruled(1, -1), NONE);
        due.is("n 0", x.ruled(0, 0), BAD);
        due.is("n 61", x.ruled(61, 1), BAD);
        // 0 0 0 1, fifteen times: a change in each, and one between any two
        due.is("n 60", x.ruled(60, 1), 29);
        due.is("n 1", x.ruled(1, 1), 0);

        OneFan y = Due.withRoom("warm 9 k=0;warm 1 k=1;cool 0 s=9");
        y.fan(FAN, 0, 2, 2, 1);
        y.fan(FAN, 0, 2, 2, 1);
        y.sitter(2, 50);
        y.rule(-1, 1);
        y.rule(0, 3);
        due.are("how many are on", 1, n -> y.ruled(n, 0), 59, 60, 61, 62, 71);

        // From second 1 on the turn is at 1 2 3 0 1 2; the rule has it on in every second.
        OneFan z = new OneFan();
        z.fan(TURN, 0, 0, 3, 1);
        z.sitter(2, 0);
        z.go(1);
        z.heat(0, 50);
        z.rule(0, 1);
        due.are("where it is from now on", 1, n -> z.ruled(n, 0), 52, 49, 51, 53, 55, 52);
    }

    private static void ruledByFourRows() {
        // Two seconds on, one off, three on, two off, and anew: one sits under the fan all the time.
        OneFan x = Due.withRoom("warm 9 k=0;cool 1 k=1");
        x.fan(FAN, 0, 5, 5, 1);
        x.sitter(5, 20);
        x.rule(0, 2);
        x.rule(-1, 1);
        x.rule(0, 3);
        x.rule(-1, 2);
        due.are("heat", 1, n -> x.ruled(n, 0), 19, 18, 27, 26, 25, 24, 33, 42, 41, 40, 49);
        due.are("changes", 1, n -> x.ruled(n, 1), 0, 0, 1, 2, 2, 2, 3, 3, 4, 4, 5);
    }

    // Promise 38
    private static void book() {
        OneFan x = new OneFan();
        due.is("none at all", x.book(-1, -5, 99), 0);
        due.is("no fans", x.book(0, 0, 0), NONE);
        x.fan(FAN, 0, 3, 3, 1);
        due.is("fan 1", x.book(1, 1000, 0), NONE);
        due.is("fan -2", x.book(-2, 0, 0), NONE);
        due.is("place 10", x.book(0, 1000, 10), NONE);
        due.is("place -1", x.book(0, 0, -1), NONE);
        due.is("second -1", x.book(0, -1, 0), BAD);
        due.is("second 1000", x.book(0, 1000, 0), BAD);
        for (int i = 1; i <= 8; i++) {
            due.is("book", x.book(0, i == 1 ? 999 : 0, i == 2 ? 9 : 3), i);
        }
        due.is("full", x.book(0, 0, 0), FULL);
        due.is("full and second", x.book(0, 1000, 0), BAD);
        due.is("full and place", x.book(0, 0, 10), NONE);
        due.is("count(5)", x.count(5), 8);
        due.is("looked", x.looked(), 1);
        due.is("none then", x.book(-1, 0, 0), 0);
        due.is("count(5)", x.count(5), 0);
        due.is("looked", x.looked(), -5);
    }

    // Promise 39
    private static void looked() {
        OneFan x = new OneFan();
        x.fan(TURN, 0, 0, 3, 1);
        x.fan(FAN, 0, 3, 3, 1);
        x.book(0, 5, 1);
        x.book(1, 999, 3);
        x.book(0, 999, 3);
        due.is("all are so", x.looked(), -5);
        x.book(0, 6, 1);
        x.book(0, 7, 1);
        due.is("the first that is not so", x.looked(), 3);
        x.on(1, false);
        x.go(3);
        due.is("on or off, whenever", x.looked(), 3);
        x.turn(0, 1, 1, 1);
        due.is("as it is now", x.looked(), 2);
        x.turn(1, 4, 4, 1);
        due.is("as they are now", x.looked(), 1);
        x.turn(0, 0, 0, 1);
        due.is("the first", x.looked(), 0);
        x.book(-1, 0, 0);
        for (int i = 0; i < 7; i++) {
            x.book(i % 2, i, i % 2 == 0 ? 0 : 4);
        }
        due.is("seven are so", x.looked(), -5);
        x.book(0, 7, 1);
        due.is("the eighth", x.looked(), 7);

        // Each row by its own numbers: only the one in the middle is not so.
        OneFan y = new OneFan();
        y.fan(TURN, 0, 0, 9, 1);
        y.fan(HOLD, 8, 0, 0, 1);
        y.fan(FAN, 0, 6, 6, 1);
        y.book(1, 4, 8);
        y.book(0, 27, 7);
        y.book(2, 5, 6);
        y.book(0, 13, 4);
        y.book(1, 1, 8);
        due.is("the fourth", y.looked(), 3);
        y.turn(0, 0, 8, 1);
        due.is("the second", y.looked(), 1);
        y.turn(2, 7, 8, 1);
        y.turn(0, 7, 7, 1);
        due.is("the third", y.looked(), 2);
    }

    private static void lookedAtWhoFollows() {
        OneFan x = new OneFan();
        x.fan(HANDED, 0, 4, 4, 1);
        x.book(0, 15, 4);
        x.image();
        due.is("nobody", x.looked(), -5);
        x.sitter(9, 0);
        due.is("it is where one sits", x.looked(), 0);
        x.book(-1, 0, 0);
        x.book(0, 15, 9);
        due.is("it is where one sits", x.looked(), -5);
        x.sitter(2, 0);
        due.is("it is where the second sits", x.looked(), 0);
    }

    private static void acts(OneFan x, int fan, int act, int want, int... bodies) {
        String call = "act(" + fan + ", " + act + ", 10)";
        due.is(call, x.act(fan, act, 10), want);
        due.is(call + ", count(7)", x.count(7), bodies.length);
        for (int i = 0; i < bodies.length; i++) {
            due.is(call + ", trace(" + i + ")", x.trace(i), bodies[i]);
        }
        due.is(call + ", trace(" + bodies.length + ")", x.trace(bodies.length), NONE);
    }

    // Promise 40
    private static void act() {
        OneFan x = new OneFan();
        x.fan(FAN, 3, 0, 0, 1);
        x.fan(SWING, 2, 0, 0, 1);
        x.fan(TURN, 4, 0, 0, 1);
        x.fan(HOLD, 5, 0, 0, 1);
        acts(x, 0, 0, 10, 1);
        acts(x, 0, 1, 7, 2, 1);
        acts(x, 0, 2, 14, 3, 2, 1);
        acts(x, 1, 0, 31, 11, 1);
        acts(x, 1, 1, 29, 2, 11, 1);
        acts(x, 1, 2, 58, 3, 2, 11, 1);
        acts(x, 2, 0, 12, 1);
        acts(x, 2, 1, -8, 21, 2, 1);
        acts(x, 2, 2, -16, 3, 21, 2, 1);
        acts(x, 3, 0, 13, 1);
        acts(x, 3, 1, 8, 2, 1);
        acts(x, 3, 2, 23, 31, 3, 2, 1);
        OneFan y = new OneFan();
        y.fan(DOUBLE, 3, 0, 0, 1);
        y.fan(HANDED, 2, 0, 0, 1);
        y.fan(TOLD, 4, 0, 0, 1);
        acts(y, 0, 0, 30, 11, 1);
        acts(y, 0, 1, 27, 2, 11, 1);
        acts(y, 0, 2, 54, 41, 3, 2, 11, 1, 11, 1);
        acts(y, 1, 0, 10, 51, 1);
        acts(y, 1, 1, 8, 2, 51, 1);
        acts(y, 1, 2, 23, 31, 3, 2, 51, 1);
        acts(y, 2, 0, 12, 1);
        acts(y, 2, 1, -4, 61, 21, 2, 1);
        acts(y, 2, 2, -8, 3, 61, 21, 2, 1);
        acts(y, 2, 3, 0);
        acts(y, 2, 0, 12, 1);
        acts(y, 2, -1, 0);
        acts(y, 2, 0, 12, 1);
        acts(y, 3, 0, 0);
        acts(y, 2, 0, 12, 1);
        acts(y, -1, 0, 0);
    }

    private static void actFlipsBits() {
        OneFan x = new OneFan();
        x.fan(HOLD, 5, 0, 0, 1);
        x.fan(HANDED, 5, 0, 0, 1);
        // 8 - 5, twice, is 6
        due.is("tells", x.act(0, 2, 8), 1);
        due.is("tells below 0", x.act(0, 2, 1), -8 ^ 7);
        // 5 + 1 is 6, and with 1: 7; 4 + 1 is 5, and with 1: 4
        due.is("blows", x.act(1, 0, 5), 7);
        due.is("blows", x.act(1, 0, 4), 4);
    }

    private static void actWraps() {
        OneFan x = new OneFan();
        x.fan(DOUBLE, 3, 0, 0, 1);
        x.fan(SWING, 2, 0, 0, 1);
        x.fan(TURN, 4, 0, 0, 1);
        x.fan(FAN, 9, 0, 0, 1);
        due.is("tells", x.act(0, 2, Integer.MIN_VALUE), -6);
        due.is("blows", x.act(1, 0, 1 << 30), -1073741823);
        due.is("goes", x.act(2, 1, Integer.MIN_VALUE + 2), Integer.MIN_VALUE);
        due.is("blows", x.act(3, 0, Integer.MAX_VALUE), Integer.MIN_VALUE + 2);
        due.is("goes", x.act(3, 1, Integer.MIN_VALUE), Integer.MAX_VALUE - 5);
        due.is("tells", x.act(3, 2, Integer.MIN_VALUE), -12);

        OneFan y = new OneFan();
        y.fan(FAN, 9, 0, 0, 1);
        y.fan(TOLD, 9, 0, 0, 1);
        y.fan(HANDED, 9, 0, 0, 1);
        y.fan(HOLD, 9, 0, 0, 1);
        // least + 5 + 1 - 9 is most - 2, its negative is least + 3, and 9 more
        due.is("goes", y.act(1, 1, Integer.MIN_VALUE + 5), Integer.MIN_VALUE + 12);
        // -(most - 7 + 1 - 9) is -most + 15; least + 1 + 15, and 9 more
        due.is("goes", y.act(1, 1, Integer.MAX_VALUE - 7), Integer.MIN_VALUE + 25);
        // -(least + 8 + 1 - 9) is least itself; 9 more
        due.is("goes, the least's negative", y.act(1, 1, Integer.MIN_VALUE + 8), Integer.MIN_VALUE + 9);
        // most + 2 is least + 1; 2 is not in it
        due.is("blows", y.act(2, 0, Integer.MAX_VALUE), Integer.MIN_VALUE + 3);
        // least + 3 - 9 is most - 5; twice that is -12; -12 ^ 7 is -13
        due.is("tells", y.act(3, 2, Integer.MIN_VALUE), -13);
    }

    // Promise 41
    private static void trace() {
        OneFan x = new OneFan();
        due.is("no act", x.trace(0), NONE);
        x.fan(DOUBLE, 0, 0, 0, 1);
        x.act(0, 2, 0);
        due.are("trace", -1, x::trace, NONE, 41, 3, 2, 11, 1, 11, 1, NONE);
        due.is("trace(20)", x.trace(20), NONE);
        due.is("trace(least)", x.trace(Integer.MIN_VALUE), NONE);
        due.is("trace(most)", x.trace(Integer.MAX_VALUE), NONE);
        x.act(0, 0, 0);
        due.are("of the latest alone", 0, x::trace, 11, 1, NONE);
    }

    // Promise 42
    private static void as() {
        int[][] above = {{0}, {0, 1}, {0, 2}, {0, 3}, {0, 1, 4}, {0, 3, 5}, {0, 2, 6}};
        for (int kind = 0; kind <= 6; kind++) {
            OneFan x = new OneFan();
            x.fan(kind, 8, 0, 0, 1);
            for (int k = 0; k <= 6; k++) {
                final int asked = k;
                boolean isOne = java.util.Arrays.stream(above[kind]).anyMatch(a -> a == asked);
                due.is("kind " + kind + " as " + k, x.as(0, k), isOne ? 8 : -6);
            }
            due.is("as 7", x.as(0, 7), NONE);
            due.is("as -1", x.as(0, -1), NONE);
            due.is("fan 1", x.as(1, 0), NONE);
            due.is("fan -1", x.as(-1, 7), NONE);
        }
    }

    // Promise 43
    private static void image() {
        OneFan x = new OneFan();
        due.is("image", x.image(), 0);
        x.fan(FAN, 0, 0, 0, 1);
        x.fan(FAN, 0, 0, 0, 1);
        due.is("undo", x.undo(), 0);
        due.is("count(0)", x.count(0), 0);
        x.fan(SWING, 0, 0, 0, 1);
        due.is("image", x.image(), 1);
        x.fan(FAN, 0, 0, 0, 1);
        due.is("undo, the newer image", x.undo(), 1);
        due.is("of", x.of(0, 0), SWING);
    }

    private static OneFan furnished() {
        OneFan x = Due.withRoom("hot 33;fly 2;warm 3 s=0");
        x.fan(TOLD, 4, 1, 2, 3);
        x.fan(SWING, 2, 3, 5, 1);
        x.row(0, 1, 7);
        x.on(1, false);
        x.sitter(7, 40);
        x.go(5);
        x.flown(77);
        x.see(0, 1, 44);
        x.rule(1, 3);
        x.book(0, 4, 7);
        Due.fed(x, "hot 6");
        return x;
    }

    private static void isFurnished(OneFan x) {
        due.are("counts", 0, x::count, 2, 1, 1, 1, 1, 1, 5);
        due.are("told", 0, x::told, 5, 33, 2);
        due.are("fan 0", 0, w -> x.of(0, w), TOLD, 4, 1, 2, 3, 1, 7);
        due.are("fan 1", 0, w -> x.of(1, w), SWING, 2, 3, 5, 1, 0, 5);
        due.are("its row", 0, t -> x.is(0, 3 * t), 0, 7, 0, 0);
        // 3 more in each second, from second 3 on 5 and 4 less
        due.are("sitter", 0, w -> x.at(0, w), 7, 46, 2, 1);
        due.is("heats", x.sat(0), 0);
        due.is("looked", x.looked(), -5);
        due.is("ruled", x.ruled(1, 1), 0);
        due.is("the room", x.then(1, 10), 46 + 3 - 3);
    }

    // Promise 44
    private static void undo() {
        OneFan x = furnished();
        due.is("no image", x.undo(), STATE);
        due.is("image", x.image(), 2);
        isFurnished(x);
        x.act(0, 2, 1);
        for (int again = 0; again < 2; again++) {
            x.turn(0, 5, 6, 1);
            x.turn(1, 0, 9, 2);
            x.on(0, false);
            x.on(1, true);
            x.row(0, 1, 2);
            x.row(0, 3, 2);
            x.fan(HOLD, 1, 1, 1, 1);
            x.sitter(3, 3);
            x.move(0, 0);
            x.go(60);
            x.heat(0, 99);
            x.flown(1);
            x.see(-1, 1, 1);
            x.see(1, 1, 1);
            x.see(1, 1, 1);
            x.rule(-1, 20);
            x.rule(0, -1);
            x.rule(0, 20);
            x.rule(2, 20);
            x.book(-1, 4, 7);
            x.book(2, 4, 7);
            x.book(2, 4, 7);
            x.feed('0');
            due.is("room", x.room(), 1);
            Due.fed(x, "fly");
            due.is("undo", x.undo(), 2);
            isFurnished(x);
            due.are("the trace is not undone", 0, x::trace, 3, 61, 21, 2, 1, NONE);
            due.is("count(7)", x.count(7), 5);
            due.is("flown", x.flown(77), 77);
            due.is("which, by the room's fly", x.which(5), 0);
        }
        due.is("the tape", x.room(), 1);
        due.is("the tape", x.told(1), 6);
        x.see(-1, 0, 0);
        x.see(0, 0, 45);
        x.undo();
        x.undo();
        due.is("undo, the same image", x.count(2), 1);
        x.fan(FAN, 0, 0, 0, 1);
        due.is("a new fan in the place of the one gone", x.of(2, 0), FAN);
        due.is("STATE is no more", x.undo(), 2);
    }

    private static void undoOfSix() {
        OneFan x = new OneFan();
        x.fan(DOUBLE, 0, 4, 4, 1);
        for (int s = 0; s < 6; s++) {
            x.sitter(9 - s, 10 * s);
        }
        x.go(2);
        x.image();
        for (int s = 0; s < 6; s++) {
            x.move(s, 0);
            x.heat(s, 99);
        }
        x.turn(0, 0, 0, 1);
        x.go(3);
        x.undo();
        due.are("place", 0, s -> x.at(s, 0), 9, 8, 7, 6, 5, 4);
        due.are("heat", 0, s -> x.at(s, 1), 4, 14, 24, 34, 35, 45);
        due.are("run", 0, s -> x.at(s, 2), 0, 0, 0, 0, 2, 2);
        due.are("met", 0, s -> x.at(s, 3), 0, 0, 0, 0, 1, 1, NONE);
    }

    /** What is as many as in the image is what it was, too. */
    private static void undoOfRows() {
        OneFan x = new OneFan();
        x.fan(TOLD, 0, 0, 0, 1);
        x.fan(HANDED, 0, 9, 9, 1);
        x.row(0, 2, 4);
        x.on(0, false);
        x.sitter(5, 50);
        x.see(0, 1, 47);
        x.rule(1, 1);
        x.rule(-1, 2);
        x.book(1, 9, 5);
        x.book(0, 2, 4);
        x.image();
        for (int again = 0; again < 2; again++) {
            x.on(0, true);
            x.row(0, 2, 0);
            x.on(1, false);
            x.go(3);
            x.see(-1, 0, 0);
            x.see(0, 1, 99);
            x.rule(0, -1);
            x.rule(-1, 3);
            x.rule(0, 3);
            x.book(-1, 0, 0);
            x.book(0, 2, 9);
            x.book(0, 2, 9);
            due.is("undo", x.undo(), 2);
            due.is("a told one is off", x.of(0, 5), 0);
            due.is("another is on", x.of(1, 5), 1);
            due.is("heats", x.sat(0), 1023);
            due.are("rule", 1, n -> x.ruled(n, 0), 47, 49, 51, 48);
            due.are("rule", 1, n -> x.ruled(n, 1), 0, 1, 1, 2);
            due.is("book", x.looked(), -5);
            due.are("row", 0, t -> x.is(0, t), 0, 0, 4, 0);
        }
        x.on(0, true);
        x.image();
        x.on(0, false);
        x.undo();
        due.is("a told one is on", x.of(0, 5), 1);
    }

    /** As many rows of each as there may be, and of nothing as many as of another. */
    private static OneFan fullOfRows() {
        OneFan x = new OneFan();
        x.fan(TURN, 0, 0, 9, 1);
        x.fan(HOLD, 8, 0, 0, 1);
        x.fan(FAN, 0, 6, 6, 1);
        x.on(0, false);
        x.sitter(8, 55);
        x.sitter(0, 40);
        int[] heats = {52, 50, 49, 49, 50, 51};
        for (int n = 1; n <= 6; n++) {
            x.see(n == 2 ? 1 : 0, n, n == 2 ? 44 : heats[n - 1]);
        }
        for (int f = -1; f < 3; f++) {
            x.rule(f, f + 2);
        }
        int[] places = {5, 8, 6};
        for (int i = 1; i <= 8; i++) {
            x.book(i % 3, 10 * i + 5, places[i % 3]);
        }
        due.is("room", Due.fed(x, "hot 9").room(), 0);
        return Due.fed(x, "cool 7 ");
    }

    private static void undoOfAllRows() {
        OneFan x = fullOfRows();
        x.image();
        for (int again = 0; again < 2; again++) {
            due.are("counts", 0, x::count, 3, 2, 1, 6, 4, 8, 7, 0, NONE);
            due.is("cooled from now on, at 6 or 8", x.sat(0), 64 + 256);
            due.is("not cooled, not at 6 or 8", x.sat(1), 1023 - 64 - 256);
            // the held one alone is on in seconds 3, 4, 5
            due.is("rule", x.ruled(10, 0), 55 + 20 - 12);
            due.is("rule", x.ruled(60, 1), 4 * 6 - 1);
            due.is("book", x.looked(), -5);
            x.see(-1, 0, 0);
            x.rule(0, -1);
            x.book(-1, 0, 0);
            for (int i = 1; i <= 8; i++) {
                due.is("see", x.see(1, 60, 0), i <= 6 ? i : FULL);
                due.is("rule", x.rule(0, 20), i <= 4 ? i : FULL);
                due.is("book", x.book(1, 0, 0), i);
            }
            due.is("heats told anew", x.sat(1), 0);
            due.is("a rule told anew: met at 8 alone", x.ruled(10, 0), 55 + 20 - 5);
            due.is("a book told anew", x.looked(), 0);
            due.is("undo", x.undo(), 3);
        }
    }

    /** Numbers of fans and sitters that are gone are given anew, and what has them is new. */
    private static void undoOfNew() {
        OneFan x = new OneFan();
        x.image();
        for (int again = 0; again < 2; again++) {
            due.is("fan", x.fan(TOLD, 1, 0, 0, 1), 0);
            due.are("a new row", 0, k -> x.row(0, k, 7), 0, 0, 0, 0);
            due.is("on", x.on(0, false), 1);
            due.is("sitter", x.sitter(7, 50), 0);
            due.is("a new run", x.at(0, 2), 0);
            x.on(0, true);
            x.go(4);
            due.is("run", x.at(0, 2), 4);
            due.is("room", Due.fed(x, "hot 9").room(), 0);
            due.is("undo", x.undo(), 0);
            due.is("nobody", x.at(0, 0), NONE);
            due.is("no fan", x.of(0, 0), NONE);
            due.are("no room", 0, x::told, 0, 80, 3);
        }
        // What was full has space again.
        for (int again = 0; again < 2; again++) {
            for (int i = 0; i < 4; i++) {
                due.is("fan", x.fan(FAN, 0, 0, 0, 1), i);
            }
            for (int i = 0; i < 5; i++) {
                due.is("room", Due.fed(x, "hot 1").room(), i);
            }
            for (int i = 0; i < 6; i++) {
                due.is("sitter", x.sitter(0, 0), i);
            }
            due.is("full", x.fan(FAN, 0, 0, 0, 1), FULL);
            due.is("full", x.room(), FULL);
            due.is("full", x.sitter(0, 0), FULL);
            x.undo();
        }
    }

    // Promise 45
    private static void count() {
        OneFan x = furnished();
        x.fan(FAN, 0, 0, 0, 1);
        x.sitter(0, 0);
        x.sitter(0, 0);
        x.sitter(0, 0);
        x.see(0, 0, 0);
        x.book(0, 0, 0);
        x.book(0, 0, 0);
        x.book(0, 0, 0);
        x.book(0, 0, 0);
        x.rule(0, 1);
        x.rule(0, 1);
        x.act(1, 2, 0);
        due.are("count", -1, x::count, NONE, 3, 4, 1, 2, 3, 5, 5, 4, NONE);
        x.act(3, 0, 0);
        due.is("count(7), no such fan", x.count(7), 0);
    }
}
