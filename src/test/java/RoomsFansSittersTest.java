/** Promises 1 to 15. */
final class RoomsFansSittersTest {
    private static final Due due = new Due("RoomsFansSittersTest");
    private static final int NONE = OneFan.NONE, BAD = OneFan.BAD, STATE = OneFan.STATE, FULL = OneFan.FULL;
    private static final int FAN = 0, SWING = 1, TURN = 2, HOLD = 3, DOUBLE = 4, HANDED = 5, TOLD = 6;

    public static void main(String[] args) {
        constants();
        newObject();
        feed();
        roomFaults();
        roomNumbers();
        roomsOpenFive();
        roomsOfAllSigns();
        fan();
        of();
        ofEachKind();
        ofWhoFollows();
        swing();
        turnsAndHolds();
        handed();
        toldFans();
        turn();
        on();
        row();
        sitter();
        at();
        move();
        heat();
        told();
        go();
        goEnds();
        goCoolsLessAndLess();
        goAsksOfTheSitter();
        goAsksOfTheRun();
        goAsksOfTheSecondAndTheFans();
        goAsksOfEachSecond();
        goJoins();
        is();
        due.end();
    }

    private static void constants() {
        due.is("NONE", OneFan.NONE, -1);
        due.is("BAD", OneFan.BAD, -2);
        due.is("STATE", OneFan.STATE, -3);
        due.is("FULL", OneFan.FULL, -4);
        due.is("NO", OneFan.NO, Long.MIN_VALUE);
    }

    // Promise 1
    private static void newObject() {
        OneFan x = new OneFan();
        due.are("count", 0, x::count, 0, 0, 0, 0, 0, 0, 0, 0);
        due.is("of", x.of(0, 0), NONE);
        due.is("at", x.at(0, 0), NONE);
        due.are("told", 0, x::told, 0, 80, 3);
        due.is("undo", x.undo(), STATE);
        due.is("trace", x.trace(0), NONE);
        due.is("flown", x.flown(0), 0);
        due.is("looked", x.looked(), -5);
    }

    // Promise 2
    private static void feed() {
        OneFan x = new OneFan();
        due.is("feed(0)", x.feed(0), 1);
        due.is("feed(127)", x.feed(127), 2);
        due.is("feed(-1)", x.feed(-1), BAD);
        due.is("feed(128)", x.feed(128), BAD);
        due.is("feed(least)", x.feed(Integer.MIN_VALUE), BAD);
        due.is("count(6)", x.count(6), 2);
        for (int i = 3; i <= 100; i++) {
            due.is("feed " + i, x.feed('h'), i);
        }
        due.is("feed, full", x.feed('h'), FULL);
        due.is("feed, full and bad", x.feed(128), BAD);
        due.is("count(6)", x.count(6), 100);
        due.is("room", x.room(), -10);
        due.is("feed, empty again", x.feed('h'), 1);
    }

    // Promise 3
    private static void roomIs(String text, int want) {
        OneFan x = Due.fed(new OneFan(), text);
        due.is("room of \"" + text + "\"", x.room(), want);
        due.is("count(6) behind \"" + text + "\"", x.count(6), 0);
        due.is("count(2) behind \"" + text + "\"", x.count(2), want < 0 ? 0 : 1);
    }

    private static void roomFault(String text, int fault) {
        roomIs(text, -10 - fault);
    }

    private static void roomFaults() {
        roomFault("", 0);
        for (String good : new String[] {"hot 5", "hot 0", "hot 99", "fly 10", "warm 1 s=1", "cool 99 (s=1|p<2)&!h>3",
            "warm 0 r<99|t=0&k>4", "cool 1 !!(p=1)", "hot 1;fly 1;warm 1 s=0;cool 1 s=0;hot 2"}) {
            roomIs(good, 0);
        }
        roomFault("Hot 5", 0);
        roomFault("s=1", 0);
        roomFault(" hot 5", 0);
        roomFault(";hot 5", 0);
        roomFault("h", 1);
        roomFault("hat 5", 1);
        roomFault("cold 5", 2);
        roomFault("warn 5", 3);
        roomFault("hot", 3);
        roomFault("hot5", 3);
        roomFault("hot ", 4);
        roomFault("hot  5", 4);
        roomFault("hot x", 4);
        roomFault("hot /", 4);
        roomFault("hot :", 4);
        roomFault("hot -1", 4);
        roomFault("hot 05", 5);
        roomFault("hot 00", 5);
        roomFault("hot 123", 6);
        roomFault("hot 5 ", 5);
        roomFault("hot 5:", 5);
        roomFault("hot 5;", 6);
        roomFault("hot 5;;hot 6", 6);
        roomFault("hot 5; hot 6", 6);
        roomFault("hot 5;hot 6;x", 12);
        roomFault("fly 2 s=1", 5);
        roomFault("fly 7|", 5);
        roomFault("warm 5", 6);
        roomFault("warm 5;", 6);
        roomFault("warm 5 ", 7);
        roomFault("warm 05 s=1", 6);
        roomFault("warm 100 s=1", 7);
        roomFault("cool 10s=1", 7);
        roomFault("warm 1  s=1", 7);
        roomFault("warm 1 S=1", 7);
        roomFault("warm 1 x=1", 7);
        roomFault("warm 1 s", 8);
        roomFault("warm 1 s;", 8);
        roomFault("warm 1 s!1", 8);
        roomFault("warm 1 s=", 9);
        roomFault("warm 1 s==1", 9);
        roomFault("warm 1 s<>1", 9);
        roomFault("warm 1 s=p", 9);
        roomFault("warm 1 s=01", 10);
        roomFault("warm 1 s=100", 11);
        roomFault("warm 1 s=1 ", 10);
        roomFault("warm 1 s=1s=1", 10);
        roomFault("cool 1 s=1)", 10);
        roomFault("cool 1 (s=1", 11);
        roomFault("cool 1 (s=1;", 11);
        roomFault("cool 1 (s=1))", 12);
        roomFault("cool 1 (s=1)s=1", 12);
        roomFault("cool 1 ()", 8);
        roomFault("cool 1 !", 8);
        roomFault("cool 1 !)", 8);
        roomFault("cool 1 &s=1", 7);
        roomFault("cool 1 s=1|", 11);
        roomFault("cool 1 s=1&|s=1", 11);
        roomFault("cool 1 s=1||s=1", 11);
        roomFault("cool 1 s=1&;", 11);
        roomFault("cool 1 !&s=1", 8);
        roomFault("cool 1 (|s=1)", 8);
        roomFault("\0", 0);
        roomFault("hot 5\0", 5);
        roomFault("hot 5" + (char) 127, 5);
        roomFault("warm 1 \0=1", 7);
        roomFault("warm 1 s\0", 8);
    }

    private static void roomsOfAllSigns() {
        String long1 = "cool 10 s=10" + "&s=1".repeat(22);
        due.is("signs", long1.length(), 100);
        roomIs(long1, 0);
        roomFault("cool 10 s=1" + "&s=1".repeat(22) + "&", 100);
        roomFault("cool 10 s=1" + "&s=1".repeat(22) + "x", 99);

        // All of ten clauses count, with the longest numbers, and so does each test of a long one.
        OneFan x = Due.withRoom("hot 1;hot 99" + ";warm 1 s=0".repeat(7) + ";fly 99");
        x.sitter(0, 10);
        due.is("room", x.count(2), 1);
        due.are("told", 1, x::told, 99, 99);
        due.is("seven are warm", x.then(1, 10), 17);
        OneFan y = Due.withRoom("warm 99 s<99" + "&s<1".repeat(21) + "&p=4");
        y.sitter(4, 0);
        y.sitter(4, 0);
        y.sitter(3, 0);
        due.is("all tests hold", y.then(1, 10), 99);
        due.is("all but the last hold", y.then(1, 12), 0);
        y.move(0, 3);
        due.is("the last does not hold", y.then(1, 10), 0);
        OneFan z = Due.withRoom("warm 0 s=0;cool 99 s=0");
        z.sitter(0, 99);
        z.fan(FAN, 0, 0, 0, 1);
        due.is("99 less", z.then(1, 10), 0);
        z.on(0, false);
        due.is("0 more", z.then(60, 10), 99);
    }

    private static void roomsOpenFive() {
        roomIs("cool 1 !!!!!s=1", 0);
        roomFault("cool 1 !!!!!!s=1", 12);
        roomIs("cool 1 (((((s=1)))))", 0);
        roomFault("cool 1 ((((((s=1", 12);
        roomFault("cool 1 !(!(!(s=1", 12);
        roomFault("cool 1 (!(!(!s=1", 12);
        // A ! is no longer open behind its F, be that a test, a (..) or a further !.
        roomIs("cool 1 !s=1&!s=2&!s=3|!s=4|!s=5&!s=6", 0);
        roomIs("cool 1 !(s=1)&!(s=2)|!(s=3)&!(s=4)", 0);
        roomIs("cool 1 !!!!!s=1&!!!!!s=2|(((((s=3)))))", 0);
        roomIs("cool 1 !(!(!s=1&!s=2)&!!!s=3)", 0);
        roomFault("cool 1 !(!(!s=1&!s=2)&!!!!s=3)", 25);
        roomFault("cool 1 !(!(!s=1&!(s=2)))", 17);
        roomIs("cool 1 (!(!(s=1))&!!(s=2))", 0);
        // What is open in one clause is not in the next.
        roomIs("cool 1 !!!!!s=1;cool 1 !!!!!s=1;warm 1 (((((s=1)))))", 0);
    }

    private static void roomNumbers() {
        StringBuilder ten = new StringBuilder("hot 1");
        for (int i = 2; i <= 10; i++) {
            ten.append(";hot ").append(i == 10 ? 0 : i);
        }
        roomIs(ten.toString(), 0);
        roomFault(ten + ";hot 1", 59);
        roomFault(ten + ";", 59);

        OneFan x = Due.withRoom("hot 50;fly 9;hot 60;fly 0");
        due.are("told", 0, x::told, 0, 60, 1, NONE);
        due.is("room, fault", Due.fed(x, "hot 70;hot y").room(), -21);
        due.is("the one that held holds", x.told(1), 60);
        due.is("count(6)", x.count(6), 0);
        due.is("room 1", Due.fed(x, "warm 1 s=0").room(), 1);
        due.are("told, of the newest alone", 0, x::told, 0, 80, 3);
        for (int i = 2; i < 5; i++) {
            due.is("room " + i, Due.fed(x, "hot " + i).room(), i);
        }
        due.is("room, full", Due.fed(x, "hot 77").room(), FULL);
        due.is("the tape stays", x.count(6), 6);
        due.is("count(2)", x.count(2), 5);
        due.is("told(1)", x.told(1), 4);
        due.is("feed", x.feed('x'), 7);
        due.is("room, full ahead of a fault", x.room(), FULL);
        due.is("the tape stays", x.count(6), 7);
    }

    // Promise 4
    private static void fan() {
        OneFan x = new OneFan();
        due.is("kind -1", x.fan(-1, 0, 0, 0, 1), NONE);
        due.is("kind 7", x.fan(7, 0, 0, 0, 1), NONE);
        due.is("kind 7 and v", x.fan(7, 10, 0, 0, 1), NONE);
        due.is("v -1", x.fan(0, -1, 0, 0, 1), BAD);
        due.is("v 10", x.fan(0, 10, 0, 0, 1), BAD);
        due.is("from -1", x.fan(0, 0, -1, 0, 1), BAD);
        due.is("from behind to", x.fan(0, 0, 3, 2, 1), BAD);
        due.is("to 10", x.fan(0, 0, 3, 10, 1), BAD);
        due.is("from 10", x.fan(0, 0, 10, 10, 1), BAD);
        due.is("pace 0", x.fan(0, 0, 0, 0, 0), BAD);
        due.is("pace 5", x.fan(0, 0, 0, 0, 5), BAD);
        due.is("count(0)", x.count(0), 0);
        due.is("fan", x.fan(FAN, 0, 0, 0, 1), 0);
        due.is("fan", x.fan(TOLD, 9, 0, 9, 4), 1);
        due.is("fan", x.fan(DOUBLE, 5, 9, 9, 2), 2);
        due.is("fan", x.fan(HANDED, 5, 4, 5, 3), 3);
        due.is("fan, full", x.fan(FAN, 0, 0, 0, 1), FULL);
        due.is("fan, full and v", x.fan(FAN, 10, 0, 0, 1), BAD);
        due.is("fan, full and kind", x.fan(7, 0, 0, 0, 1), NONE);
        due.is("count(0)", x.count(0), 4);
    }

    // Promise 5
    private static void of() {
        OneFan x = new OneFan();
        x.fan(HOLD, 8, 1, 2, 4);
        x.fan(TURN, 3, 4, 7, 2);
        due.are("of 0", 0, w -> x.of(0, w), 3, 8, 1, 2, 4, 1, 8, NONE);
        due.are("of 1", 0, w -> x.of(1, w), 2, 3, 4, 7, 2, 1, 4, NONE);
        x.go(5);
        due.is("where it is now", x.of(1, 6), 6);
        x.on(1, false);
        due.are("of 1, off", 5, w -> x.of(1, w), 0, 6);
        due.is("of(-1)", x.of(-1, 0), NONE);
        due.is("of(2)", x.of(2, 0), NONE);
        due.is("of(0, -1)", x.of(0, -1), NONE);
    }

    /** Each number of a fan is its own, whatever its kind; the number in act() is which fan it is. */
    private static void ofEachKind(int kind, int number, int v, int from, int to, int pace, int place,
            int blows) {
        OneFan x = new OneFan();
        for (int f = 0; f < number; f++) {
            x.fan(FAN, 0, 0, 0, 1);
        }
        due.is("fan", x.fan(kind, v, from, to, pace), number);
        due.are("of one of kind " + kind, 0, w -> x.of(number, w), kind, v, from, to, pace, 1, place, NONE);
        due.is("tells of kind " + kind, x.as(number, kind), v);
        x.image();
        x.turn(number, 0, 0, 1);
        x.undo();
        due.are("of kind " + kind + ", undone", 0, w -> x.of(number, w), kind, v, from, to, pace, 1, place, NONE);
        due.is("blows of kind " + kind, x.act(number, 0, 10), blows);
    }

    private static void ofEachKind() {
        ofEachKind(FAN, 3, 9, 7, 8, 2, 7, 13);
        ofEachKind(SWING, 3, 9, 7, 8, 2, 7, 33);
        ofEachKind(TURN, 3, 9, 7, 8, 4, 7, 13);
        ofEachKind(HOLD, 1, 9, 7, 8, 4, 9, 11);
        ofEachKind(DOUBLE, 3, 9, 7, 8, 2, 7, 33);
        ofEachKind(HANDED, 3, 9, 7, 8, 2, 7, 13 ^ 3);
        ofEachKind(TOLD, 3, 9, 7, 8, 2, 0, 13);
    }

    private static void ofWhoFollows() {
        OneFan x = new OneFan();
        x.fan(HANDED, 7, 3, 5, 1);
        x.image();
        x.sitter(8, 0);
        due.is("where it is now", x.of(0, 6), 8);
        due.is("where it is then", x.turn(0, 4, 4, 1), 8);
        x.image();
        x.move(0, 6);
        due.is("where it is now", x.of(0, 6), 6);
        due.is("where it is then", x.turn(0, 4, 4, 2), 6);
        due.is("where it is at a second", x.is(0, 5), 6);
    }

    // Promise 15, and where fans are
    private static void swing() {
        OneFan x = new OneFan();
        x.fan(SWING, 2, 3, 5, 1);
        // three seconds at either end, one between: 3 3 3 4 5 5 5 4, and anew
        due.are("swing", 0, t -> x.is(0, t), 3, 3, 3, 4, 5, 5, 5, 4, 3, 3, 3, 4, 5, 5, 5, 4, 3);
        x.fan(DOUBLE, 0, 0, 2, 2);
        due.are("double", 0, t -> x.is(1, t), 0, 0, 1, 1, 2, 2, 1, 1, 0, 0, 1, 1, 2, 2, 1, 1, 0);
        x.fan(SWING, 9, 6, 6, 3);
        due.are("swing in one place", 0, t -> x.is(2, t), 6, 6, 6, 6, 6, 6, 6, 6, 6, 6, 6, 6, 6, 6);
        x.fan(SWING, 1, 8, 9, 1);
        due.are("swing of two", 0, t -> x.is(3, t), 8, 8, 9, 9, 8, 8, 9, 9);
        due.is("swing, late", x.is(0, 9999), 4);
    }

    private static void turnsAndHolds() {
        OneFan x = new OneFan();
        x.fan(TURN, 9, 3, 5, 2);
        due.are("turn", 0, t -> x.is(0, t), 3, 3, 4, 4, 5, 5, 3, 3, 4, 4, 5, 5, 3);
        x.fan(TURN, 9, 9, 9, 1);
        due.are("turn in one place", 0, t -> x.is(1, t), 9, 9, 9);
        x.fan(HOLD, 7, 0, 3, 1);
        due.are("hold", 0, t -> x.is(2, t), 7, 7, 7, 7);
        x.fan(FAN, 7, 2, 6, 1);
        due.are("fan", 0, t -> x.is(3, t), 2, 2, 2, 2);
    }

    private static void handed() {
        OneFan x = new OneFan();
        x.fan(HANDED, 7, 3, 5, 1);
        due.is("handed, nobody", x.is(0, 12), 3);
        x.sitter(8, 0);
        due.is("handed, one", x.is(0, 0), 8);
        due.is("handed, one", x.is(0, 35), 8);
        x.sitter(1, 0);
        x.sitter(6, 0);
        due.is("handed", x.is(0, 9), 8);
        due.is("handed", x.is(0, 10), 1);
        due.is("handed", x.is(0, 19), 1);
        due.is("handed", x.is(0, 20), 6);
        due.is("handed", x.is(0, 30), 8);
        x.move(0, 2);
        due.is("handed follows", x.is(0, 30), 2);
    }

    private static void toldFans() {
        OneFan x = new OneFan();
        x.fan(TOLD, 7, 3, 5, 3);
        due.are("told, at first", 0, t -> x.is(0, t), 0, 0, 0, 0, 0, 0, 0, 0, 0, 0, 0, 0);
        x.row(0, 0, 9);
        x.row(0, 1, 4);
        x.row(0, 3, 6);
        due.are("told", 0, t -> x.is(0, t), 9, 9, 9, 4, 4, 4, 0, 0, 0, 6, 6, 6, 9, 9, 9, 4);
    }

    // Promise 6
    private static void turn() {
        OneFan x = new OneFan();
        x.fan(TURN, 1, 0, 0, 1);
        x.go(5);
        due.is("turn", x.turn(0, 2, 4, 2), 4);
        due.are("of", 2, w -> x.of(0, w), 2, 4, 2);
        due.is("turn(-1)", x.turn(-1, 0, 0, 1), NONE);
        due.is("turn(1)", x.turn(1, 9, 0, 0), NONE);
        due.is("from behind to", x.turn(0, 4, 3, 1), BAD);
        due.is("from -1", x.turn(0, -1, 3, 1), BAD);
        due.is("to 10", x.turn(0, 4, 10, 1), BAD);
        due.is("pace 0", x.turn(0, 1, 1, 0), BAD);
        due.is("pace 5", x.turn(0, 1, 1, 5), BAD);
        due.are("of, as it was", 2, w -> x.of(0, w), 2, 4, 2);
        due.is("turn", x.turn(0, 9, 9, 4), 9);
    }

    // Promise 7
    private static void on() {
        OneFan x = new OneFan();
        x.fan(FAN, 0, 0, 0, 1);
        due.is("on, as it was", x.on(0, true), 1);
        due.is("off", x.on(0, false), 1);
        due.is("off, as it was", x.on(0, false), 0);
        due.is("of", x.of(0, 5), 0);
        due.is("on", x.on(0, true), 0);
        due.is("of", x.of(0, 5), 1);
        due.is("on(1)", x.on(1, true), NONE);
        due.is("on(-1)", x.on(-1, false), NONE);
    }

    // Promise 8
    private static void row() {
        OneFan x = new OneFan();
        x.fan(TOLD, 0, 0, 0, 1);
        x.fan(TURN, 0, 0, 0, 1);
        due.is("row", x.row(0, 3, 9), 0);
        due.is("row", x.row(0, 3, 4), 9);
        due.is("row", x.row(0, 0, 0), 0);
        due.is("k -1", x.row(0, -1, 0), NONE);
        due.is("k 4", x.row(0, 4, 10), NONE);
        due.is("fan -1", x.row(-1, 0, 0), NONE);
        due.is("fan 2", x.row(2, 0, 0), NONE);
        due.is("n -1", x.row(0, 0, -1), BAD);
        due.is("n 10", x.row(0, 0, 10), BAD);
        due.is("another kind", x.row(1, 0, 0), STATE);
        due.is("another kind and n", x.row(1, 0, 10), BAD);
        due.is("another kind and k", x.row(1, 4, 10), NONE);
        due.are("is", 0, t -> x.is(0, t), 0, 0, 0, 4);
    }

    // Promise 9
    private static void sitter() {
        OneFan x = new OneFan();
        due.is("place -1", x.sitter(-1, 0), NONE);
        due.is("place 10", x.sitter(10, 100), NONE);
        due.is("heat -1", x.sitter(0, -1), BAD);
        due.is("heat 100", x.sitter(0, 100), BAD);
        for (int s = 0; s < 6; s++) {
            due.is("sitter", x.sitter(s < 2 ? 9 : 0, s < 3 ? 99 : 0), s);
        }
        due.is("full", x.sitter(0, 0), FULL);
        due.is("full and heat", x.sitter(0, 100), BAD);
        due.is("full and place", x.sitter(10, 0), NONE);
        due.is("count(1)", x.count(1), 6);
        due.are("at 1", 0, w -> x.at(1, w), 9, 99, 0);
        due.are("at 5", 0, w -> x.at(5, w), 0, 0, 0);
    }

    // Promise 10
    private static void at() {
        OneFan x = new OneFan();
        x.sitter(9, 70);
        x.sitter(5, 10);
        x.fan(FAN, 0, 9, 9, 1);
        x.fan(DOUBLE, 0, 8, 9, 1);
        x.fan(HOLD, 5, 0, 0, 1);
        x.fan(FAN, 0, 8, 8, 1);
        due.are("at 0", 0, w -> x.at(0, w), 9, 70, 0, 3, NONE);
        due.are("at 1", 0, w -> x.at(1, w), 5, 10, 0, 4, NONE);
        x.on(0, false);
        due.is("off", x.at(0, 3), 2);
        x.move(0, 8);
        due.is("moved", x.at(0, 3), 10);
        x.go(1);
        // The wide one is at 9 by now, and 9 is the last place.
        due.is("a second later", x.at(0, 3), 8);
        due.is("run", x.at(0, 2), 1);
        x.move(0, 9);
        due.is("wide at the last place", x.at(0, 3), 2);
        x.move(0, 0);
        due.is("nothing comes round", x.at(0, 3), 0);
        due.is("at(-1)", x.at(-1, 0), NONE);
        due.is("at(2)", x.at(2, 0), NONE);
        due.is("at(0, -1)", x.at(0, -1), NONE);
    }

    // Promise 11
    private static void move() {
        OneFan x = new OneFan();
        x.sitter(4, 0);
        due.is("move", x.move(0, 9), 4);
        due.is("move", x.move(0, 0), 9);
        due.is("at", x.at(0, 0), 0);
        due.is("place 10", x.move(0, 10), NONE);
        due.is("place -1", x.move(0, -1), NONE);
        due.is("sitter 1", x.move(1, 0), NONE);
        due.is("sitter -1", x.move(-1, 0), NONE);
        due.is("at", x.at(0, 0), 0);
    }

    // Promise 12
    private static void heat() {
        OneFan x = new OneFan();
        x.sitter(4, 7);
        due.is("heat", x.heat(0, 99), 7);
        due.is("heat", x.heat(0, 0), 99);
        due.is("n 100", x.heat(0, 100), BAD);
        due.is("n -1", x.heat(0, -1), BAD);
        due.is("sitter 1", x.heat(1, 100), NONE);
        due.is("sitter -1", x.heat(-1, 0), NONE);
        due.is("at", x.at(0, 1), 0);
    }

    // Promise 13
    private static void told() {
        OneFan x = Due.withRoom("hot 7;fly 12");
        x.go(60);
        x.go(1);
        due.are("told", -1, x::told, NONE, 61, 7, 12, NONE);
        OneFan y = Due.withRoom("hot 0");
        due.are("told", 0, y::told, 0, 0, 3);
        OneFan z = Due.withRoom("fly 0");
        due.are("told", 0, z::told, 0, 80, 1);
    }

    // Promise 14
    private static void go() {
        OneFan x = new OneFan();
        due.is("go(0)", x.go(0), 0);
        due.is("go(60)", x.go(60), 60);
        due.is("go(1)", x.go(1), 61);
        due.is("go(61)", x.go(61), BAD);
        due.is("go(-1)", x.go(-1), BAD);
        due.is("go(least)", x.go(Integer.MIN_VALUE), BAD);
        due.is("told(0)", x.told(0), 61);
        x.sitter(3, 97);
        x.sitter(4, 3);
        x.fan(FAN, 0, 4, 4, 1);
        x.go(1);
        due.is("2 more", x.at(0, 1), 99);
        due.is("2 more, 5 less", x.at(1, 1), 0);
        x.go(1);
        due.is("99 at most", x.at(0, 1), 99);
        due.is("0 at least", x.at(1, 1), 0);
    }

    /** No 512 calls come that far; the bound is held all the same. */
    private static void goEnds() {
        OneFan x = new OneFan();
        for (int i = 0; i < 1666; i++) {
            x.go(60);
        }
        due.is("told(0)", x.told(0), 99960);
        due.is("go(40)", x.go(40), STATE);
        due.is("go(61)", x.go(61), BAD);
        due.is("go(39)", x.go(39), 99999);
        due.is("go(1)", x.go(1), STATE);
        due.is("go(0)", x.go(0), 99999);
        x.sitter(0, 0);
        due.is("what is asked goes on beyond", x.then(30, 0), 60);
    }

    private static void goCoolsLessAndLess() {
        OneFan x = new OneFan();
        x.sitter(2, 50);
        x.fan(FAN, 0, 2, 2, 1);
        x.fan(HOLD, 2, 0, 0, 1);
        int[] heats = {47, 45, 44, 44, 45, 46, 47, 48, 49, 50, 51};
        for (int i = 0; i < heats.length; i++) {
            x.go(1);
            due.is("heat behind " + (i + 1), x.at(0, 1), heats[i]);
            due.is("run behind " + (i + 1), x.at(0, 2), Math.min(9, i + 1));
        }
        x.on(0, false);
        x.on(1, false);
        x.go(1);
        due.is("heat, not met", x.at(0, 1), 53);
        due.is("run, not met", x.at(0, 2), 0);
        x.on(1, true);
        x.go(1);
        due.is("heat, met anew", x.at(0, 1), 50);
        due.is("run, met anew", x.at(0, 2), 1);
    }

    private static void goAsksOfTheSitter() {
        // s its number, p its place, h its heat by 10, each as ahead of the second
        OneFan x = Due.withRoom("warm 1 s=1;warm 10 p>4;warm 20 h<3;cool 3 s<9");
        x.sitter(4, 29);
        x.sitter(5, 30);
        x.sitter(5, 9);
        x.go(1);
        due.is("s 0, p 4, h 2", x.at(0, 1), 49);
        due.is("s 1, p 5, h 3", x.at(1, 1), 41);
        due.is("s 2, p 5, h 0", x.at(2, 1), 39);
        x.fan(FAN, 0, 5, 5, 1);
        x.go(1);
        due.is("not met, nothing to warm it", x.at(0, 1), 49);
        due.is("met", x.at(1, 1), 49);
        due.is("met", x.at(2, 1), 46);

        // r: the run as it is by then; with cool clauses of which none holds it is 0 less
        OneFan y = Due.withRoom("cool 9 r=2;cool 1 r=2&s=0;warm 5 r>0;warm 1 r=0");
        y.sitter(3, 50);
        y.sitter(4, 50);
        y.fan(FAN, 0, 3, 3, 1);
        y.go(1);
        due.is("run 1", y.at(0, 1), 55);
        due.is("run 0", y.at(1, 1), 51);
        y.go(1);
        due.is("run 2", y.at(0, 1), 50);
        y.go(1);
        due.is("run 3", y.at(0, 1), 55);
        due.is("run 0", y.at(1, 1), 53);

        // warm clauses of which none holds: 0 more; without cool clauses 6 less the run
        OneFan z = Due.withRoom("warm 7 s>0");
        z.sitter(3, 50);
        z.sitter(4, 50);
        z.fan(DOUBLE, 0, 3, 3, 1);
        z.go(2);
        due.is("0 more, 5 and 4 less", z.at(0, 1), 41);
        due.is("7 more twice, 5 and 4 less", z.at(1, 1), 55);

        // it is held to 0 .. 99 behind both
        OneFan w = Due.withRoom("warm 90 s=0;cool 80 s=0;warm 1 s=1;cool 50 s=1");
        w.sitter(3, 95);
        w.sitter(3, 20);
        w.fan(FAN, 0, 3, 3, 1);
        w.go(1);
        due.is("90 more, 80 less", w.at(0, 1), 99);
        due.is("1 more, 50 less", w.at(1, 1), 0);
        w.heat(0, 5);
        w.go(1);
        due.is("90 more, 80 less", w.at(0, 1), 15);
    }

    private static void goAsksOfTheSecondAndTheFans() {
        // t the second modulo 10, k how many fans are on
        OneFan x = Due.withRoom("warm 1 t=9;warm 10 k=2;cool 0 s=0");
        x.sitter(3, 0);
        x.go(9);
        due.is("seconds 0 to 8", x.at(0, 1), 0);
        x.go(1);
        due.is("second 9", x.at(0, 1), 1);
        x.go(9);
        due.is("seconds 10 to 18", x.at(0, 1), 1);
        x.go(1);
        due.is("second 19", x.at(0, 1), 2);
        x.fan(FAN, 0, 0, 0, 1);
        x.go(1);
        due.is("one fan", x.at(0, 1), 2);
        x.fan(FAN, 0, 3, 3, 1);
        x.go(1);
        due.is("two fans, one of which meets", x.at(0, 1), 12);
        x.fan(FAN, 0, 0, 0, 1);
        x.go(1);
        due.is("three fans", x.at(0, 1), 12);
        x.on(1, false);
        x.go(1);
        due.is("two of three on", x.at(0, 1), 22);

        OneFan y = Due.withRoom("warm 1 k<1;warm 2 t<4;warm 4 r<3;warm 8 h<2;warm 16 p<1");
        y.sitter(5, 0);
        y.go(4);
        y.heat(0, 0);
        y.go(1);
        due.is("k 0, t 4, r 0, h 0, p 5", y.at(0, 1), 13);
        y.fan(FAN, 0, 5, 5, 1);
        y.go(2);
        y.heat(0, 90);
        y.move(0, 0);
        y.turn(0, 0, 0, 1);
        y.go(1);
        due.is("k 1, t 7, r 3, h 9, p 0", y.at(0, 1), 99);
        y.heat(0, 40);
        y.go(1);
        due.is("k 1, t 8, r 4, h 4, p 0", y.at(0, 1), 40 + 16 - 2);
    }

    private static void goAsksOfTheRun() {
        // Met at 0, 1, 4, 5, 8, 9: the run is 1 and 2, each time anew, however often one was met.
        OneFan x = Due.withRoom("warm 1 r=1;warm 10 r=2;warm 50 r>2;cool 0 s=9");
        x.sitter(3, 0);
        x.fan(TURN, 0, 3, 4, 2);
        due.are("behind", 0, n -> x.then(n, 10), 0, 1, 11, 11, 11, 12, 22, 22, 22, 23, 33);
        x.go(6);
        due.is("behind 6", x.at(0, 1), 22);
        x.go(4);
        due.is("behind 10", x.at(0, 1), 33);

        OneFan y = Due.withRoom("warm 1 r=9;warm 20 r>9;cool 0 s=9");
        y.sitter(3, 0);
        y.fan(FAN, 0, 3, 3, 1);
        due.are("9 at most", 8, n -> y.then(n, 10), 0, 1, 2, 3, 4);
        y.go(20);
        due.is("9 at most", y.at(0, 1), 12);
    }

    private static void goAsksOfEachSecond() {
        OneFan x = Due.withRoom("warm 1 t=3;warm 10 t=7");
        x.sitter(0, 0);
        due.are("behind", 0, n -> x.then(n, 10), 0, 0, 0, 0, 1, 1, 1, 1, 11, 11, 11, 11, 11, 11, 12);
        x.go(18);
        due.is("behind 18", x.at(0, 1), 22);
        due.are("behind", 4, n -> x.then(n, 10), 22, 22, 23, 23);
    }

    private static void joins(String e, int... sitters) {
        OneFan x = Due.withRoom("warm 7 " + e);
        for (int s = 0; s < 6; s++) {
            x.sitter(s, 10);
        }
        x.go(1);
        int bits = 0;
        int want = 0;
        for (int s = 0; s < 6; s++) {
            bits |= x.at(s, 1) == 17 ? 1 << s : 0;
        }
        for (int s : sitters) {
            want |= 1 << s;
        }
        due.is(e, bits, want);
    }

    private static void goJoins() {
        joins("s<2", 0, 1);
        joins("s=2", 2);
        joins("s>2", 3, 4, 5);
        joins("s<0");
        joins("s>99");
        joins("s<99", 0, 1, 2, 3, 4, 5);
        joins("s<10", 0, 1, 2, 3, 4, 5);
        joins("!s=2", 0, 1, 3, 4, 5);
        joins("s=1|s=3", 1, 3);
        joins("s>1&s<4", 2, 3);
        joins("s=0|s>1&s<4", 0, 2, 3);
        joins("s>1&s<4|s=0", 0, 2, 3);
        joins("(s=0|s>1)&s<4", 0, 2, 3);
        joins("(s=0|s=5)&s<4", 0);
        joins("s=0|s=5&s<4", 0);
        joins("s<4&(s=0|s=5)", 0);
        joins("!s=0&s<3", 1, 2);
        joins("!(s=0&s<3)", 1, 2, 3, 4, 5);
        joins("!(s=0|s=3)", 1, 2, 4, 5);
        joins("!!s=3", 3);
        joins("!!!s=3", 0, 1, 2, 4, 5);
        joins("!(!(s=0|s=1)&!s=2)", 0, 1, 2);
        joins("s=0|s=1|s=2|s=3|s=4", 0, 1, 2, 3, 4);
        joins("s<5&s<4&s<3&s>0", 1, 2);
        joins("s=0&s=1|s=2&p=2|s=3&p=4|s=4&p=4", 2, 4);
        joins("(s=0|(s=1|(s=2&(s=2|(s=5)))))", 0, 1, 2);
        joins("s<5&(s>3|s<2&(s=0|s=2&(s=3|s=2)))", 0, 4);
        joins("s=9|s<9&(s=0|s<9&(s=9|s<9&(s=9|s<9&(s=9|s<9&(s=9|s<9&s=3)))))", 0, 3);
        joins("(s=9|!(s=9|!(s=9|s<9&s=3)&s>0)&s<5)", 0, 3);
    }

    // Promise 15
    private static void is() {
        OneFan x = new OneFan();
        x.fan(TURN, 0, 0, 9, 1);
        due.is("is", x.is(0, 0), 0);
        due.is("is", x.is(0, 9999), 9);
        due.is("10000", x.is(0, 10000), BAD);
        due.is("-1", x.is(0, -1), BAD);
        due.is("fan 1", x.is(1, 10000), NONE);
        due.is("fan -1", x.is(-1, 0), NONE);
        x.on(0, false);
        x.go(7);
        due.is("off, and not from now", x.is(0, 3), 3);
    }
}
