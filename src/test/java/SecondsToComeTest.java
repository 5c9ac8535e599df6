/** Promises 16 to 27. */
final class SecondsToComeTest {
    private static final Due due = new Due("SecondsToComeTest");
    private static final int NONE = OneFan.NONE, BAD = OneFan.BAD;
    private static final int FAN = 0, SWING = 1, TURN = 2, HOLD = 3, DOUBLE = 4, HANDED = 5, TOLD = 6;

    public static void main(String[] args) {
        then();
        thenOfSix();
        thenRefuses();
        hottest();
        tooHot();
        tooHotBehindTurns();
        set();
        setTies();
        setOfPlaces();
        paced();
        pacedByTheGreatest();
        seat();
        seatOfPlaces();
        change();
        seatsFromNow();
        worth();
        byFansThatAreOn();
        round();
        roundsOneFanAlone();
        meets();
        meetsFromNow();
        late();
        period();
        due.end();
    }

    // Promise 16
    private static void then() {
        OneFan x = new OneFan();
        due.is("then, nobody", x.then(5, 0), 0);
        due.is("then, nobody", x.then(5, 1), 0);
        due.is("then, nobody", x.then(5, 10), NONE);
        x.sitter(2, 50);
        x.sitter(7, 90);
        x.fan(FAN, 0, 2, 2, 1);
        due.are("the greatest", 0, n -> x.then(n, 0), 90, 92, 94, 96, 98, 99, 99);
        due.are("all", 0, n -> x.then(n, 1), 140, 139, 139, 140, 142, 144, 145);
        due.are("of 0", 0, n -> x.then(n, 10), 50, 47, 45, 44, 44, 45, 46, 47, 48, 49, 50);
        due.are("of 1", 0, n -> x.then(n, 11), 90, 92, 94, 96, 98, 99, 99);
        due.are("0 is met", 0, n -> x.then(n, 20), 0, 1, 2, 3);
        due.are("1 is met", 0, n -> x.then(n, 21), 0, 0, 0, 0);
        due.is("met in 60", x.then(60, 20), 60);
        due.are("at, unchanged", 0, w -> x.at(0, w), 2, 50, 0, 1);
        due.is("told, unchanged", x.told(0), 0);

        OneFan y = new OneFan();
        y.fan(TURN, 0, 0, 3, 1);
        y.sitter(2, 50);
        due.is("met at 2, 6", y.then(10, 20), 2);
        due.is("met at 2, 6, 10", y.then(11, 20), 3);
        y.go(3);
        due.is("heat behind 2, not 2, 5 less", y.at(0, 1), 51);
        due.is("not met at 3, 4, 5", y.then(3, 20), 0);
        due.is("met at 6", y.then(4, 20), 1);
        due.is("run goes on from 1, is 0 then, 1", y.then(4, 10), 51 + 6 - 3);
    }

    private static void thenOfSix() {
        OneFan x = new OneFan();
        for (int s = 0; s < 6; s++) {
            x.sitter(9 - s, 10 * s);
        }
        x.fan(DOUBLE, 0, 4, 4, 1);
        due.are("behind 2", 10, what -> x.then(2, what), 4, 14, 24, 34, 44 - 9, 54 - 9, NONE);
        for (int again = 0; again < 2; again++) {
            due.are("met in 2", 20, what -> x.then(2, what), 0, 0, 0, 0, 2, 2, NONE);
        }
        x.go(2);
        due.are("run", 0, s -> x.at(s, 2), 0, 0, 0, 0, 2, 2);
        due.are("behind 1, the run going on", 10, what -> x.then(1, what), 6, 16, 26, 36, 35 - 1, 45 - 1);
    }

    private static void thenRefuses() {
        OneFan x = new OneFan();
        x.sitter(2, 50);
        x.sitter(7, 90);
        for (int what : new int[] {-1, 2, 9, 12, 15, 16, 19, 22, 25, 26, 30, 31, Integer.MAX_VALUE, Integer.MIN_VALUE}) {
            due.is("then, what " + what, x.then(5, what), NONE);
            due.is("then, what " + what + " and n", x.then(61, what), NONE);
        }
        for (int what : new int[] {0, 1, 10, 11, 20, 21}) {
            due.is("then(-1)", x.then(-1, what), BAD);
            due.is("then(61)", x.then(61, what), BAD);
        }
        due.is("then(60)", x.then(60, 0), 99);
    }

    // Promise 17
    private static void hottest() {
        OneFan x = new OneFan();
        due.is("nobody", x.hottest(5), -5);
        due.is("61, nobody", x.hottest(61), BAD);
        due.is("-1, nobody", x.hottest(-1), BAD);
        x.sitter(1, 0);
        due.is("one", x.hottest(0), 0);
        x.sitter(4, 60);
        x.sitter(5, 60);
        due.is("of several the first", x.hottest(0), 1);
        x.fan(FAN, 0, 4, 4, 1);
        due.is("the first is cooled", x.hottest(1), 2);
        due.is("unchanged", x.hottest(0), 1);
        due.is("60", x.hottest(60), 0);
        due.is("61", x.hottest(61), BAD);
    }

    // Promise 18
    private static void tooHot() {
        OneFan x = new OneFan();
        due.is("nobody", x.tooHot(0), NONE);
        x.sitter(1, 70);
        x.sitter(1, 80);
        x.sitter(1, 69);
        due.is("70", x.tooHot(0), 5);
        due.is("80", x.tooHot(1), 0);
        due.is("69", x.tooHot(2), 6);
        x.fan(FAN, 0, 1, 1, 1);
        // Under a fan all the time it is 11 less behind 6 seconds, and 1 more in each from then on.
        x.heat(0, 30);
        x.heat(1, 29);
        due.is("80 behind 60", x.tooHot(0), 60);
        due.is("79 behind 60", x.tooHot(1), -5);
        due.is("cooled", x.tooHot(2), 21);
        due.is("tooHot(3)", x.tooHot(3), NONE);
        due.is("tooHot(-1)", x.tooHot(-1), NONE);
        due.is("unchanged", x.at(0, 1), 30);

        OneFan y = Due.withRoom("hot 0");
        y.sitter(0, 0);
        due.is("hot 0", y.tooHot(0), 0);
        OneFan z = Due.withRoom("hot 99;warm 1 t=0");
        z.sitter(0, 0);
        z.go(5);
        z.heat(0, 97);
        due.is("seconds 10 and 20", z.tooHot(0), 16);
        z.heat(0, 92);
        due.is("seven such seconds are too many", z.tooHot(0), -5);
        z.heat(0, 93);
        due.is("60 is the sixth", z.tooHot(0), 56);
    }

    private static void tooHotBehindTurns() {
        // Met at 2, 6, 10: from second 1 on 2 more, 5 less 2, 2 more thrice, ..
        OneFan x = new OneFan();
        x.fan(TURN, 0, 0, 3, 1);
        x.sitter(2, 0);
        x.go(1);
        x.heat(0, 73);
        // 75 72 74 76 78 75 77 79 81
        due.is("a fan that comes by", x.tooHot(0), 9);
    }

    // Promise 19
    private static void set() {
        OneFan x = new OneFan();
        x.fan(FAN, 0, 1, 2, 1);
        due.is("nobody", x.set(0, 5, 0), 0);
        due.is("nobody", x.set(0, 5, 1), 0);
        x.sitter(3, 50);
        due.is("at the one", x.set(0, 3, 0), 33);
        due.is("its heat", x.set(0, 3, 1), 44);
        x.sitter(5, 52);
        due.is("at the hotter one", x.set(0, 1, 0), 55);
        due.is("the other is hotter then", x.set(0, 1, 1), 52);
        due.is("from, unchanged", x.of(0, 2), 1);
        due.is("to, unchanged", x.of(0, 3), 2);
        due.is("heat, unchanged", x.at(0, 1), 50);
        // Behind 30 the other is at 99 anyway: 70 and 99, or 99 and 72.
        due.is("n 30", x.set(0, 30, 0), 33);
        due.is("n 0", x.set(0, 0, 0), BAD);
        due.is("n 31", x.set(0, 31, 1), BAD);
        due.is("what 2", x.set(0, 31, 2), NONE);
        due.is("what -1", x.set(0, 1, -1), NONE);
        due.is("fan 1", x.set(1, 0, 0), NONE);
        due.is("fan -1", x.set(-1, 1, 0), NONE);
        x.on(0, false);
        due.is("off", x.set(0, 1, 0), 0);
        due.is("off", x.set(0, 1, 1), 54);
    }

    private static void setTies() {
        // Wherever it is, one is at 62; all together are least with one of the two cooled.
        OneFan x = new OneFan();
        x.fan(FAN, 0, 0, 0, 1);
        x.sitter(5, 60);
        x.sitter(3, 60);
        due.is("then all heat together, then the least from", x.set(0, 1, 0), 33);
        due.is("then all heat together", x.set(0, 1, 1), 62);

        // At second 4 a swing from 1 to 4 is at 3, as is one that does not leave 3.
        OneFan y = new OneFan();
        y.fan(SWING, 0, 0, 0, 1);
        y.sitter(3, 42);
        y.go(4);
        due.is("the least from ahead of the least to", y.set(0, 1, 0), 14);
        due.is("heat", y.set(0, 1, 1), 47);

        OneFan z = new OneFan();
        z.fan(HOLD, 6, 4, 8, 2);
        z.sitter(6, 50);
        due.is("all alike", z.set(0, 1, 0), 0);
        due.is("all alike", z.set(0, 1, 1), 47);

        // To the last place: a turn's one second at 9 is its tenth.
        OneFan w = new OneFan();
        w.fan(TURN, 0, 0, 0, 1);
        w.sitter(0, 0);
        w.sitter(9, 99);
        w.go(9);
        w.heat(0, 99);
        due.is("from 0 to 9 alone is at 9, then 0", w.set(0, 2, 0), 9);
    }

    private static void setOfPlaces() {
        OneFan x = new OneFan();
        x.fan(FAN, 0, 3, 7, 2);
        x.sitter(0, 50);
        for (int place = 9; place >= 0; place--) {
            x.move(0, place);
            due.is("at the one in " + place, x.set(0, 1, 0), place * 11);
            due.is("its heat", x.set(0, 1, 1), 47);
        }
        due.are("unchanged", 2, w -> x.of(0, w), 3, 7, 2);

        // Who is met in 8 gets 9 more in each second; who is met in 9 gets 9 less in each first one of a row.
        // No turn comes to 9 by turns but one that comes to 8, as there is no place behind 9.
        OneFan y = Due.withRoom("warm 9 p=8&r>0;warm 2 p=9;cool 9 r=1&p=9");
        y.fan(TURN, 0, 0, 0, 1);
        y.sitter(9, 50);
        y.sitter(8, 50);
        due.is("to 9 at most", y.set(0, 3, 0), 99);
        due.is("to 9 at most", y.set(0, 3, 1), 50);
    }

    // Promise 20
    private static void paced() {
        OneFan x = new OneFan();
        x.fan(TURN, 0, 2, 4, 3);
        due.is("nobody", x.paced(0, 3), 1);
        x.sitter(4, 50);
        due.is("only pace 1 comes to 4", x.paced(0, 3), 1);
        due.is("n 4: likewise, though pace 1 has left", x.paced(0, 4), 1);
        x.go(4);
        // At 4, 5, 6: pace 1 is at 3 4 2, pace 2 at 4 4 2, pace 3 at 3 3 4, pace 4 at 3 3 3.
        due.is("pace 2 stays longer", x.paced(0, 3), 2);
        x.sitter(9, 99);
        due.is("by all heat together", x.paced(0, 3), 2);
        due.is("pace, unchanged", x.of(0, 4), 3);
        due.is("n 0", x.paced(0, 0), BAD);
        due.is("n 31", x.paced(0, 31), BAD);
        due.is("fan 1", x.paced(1, 31), NONE);
        due.is("fan -1", x.paced(-1, 1), NONE);
        x.turn(0, 4, 4, 4);
        due.is("all alike", x.paced(0, 30), 1);

        OneFan y = new OneFan();
        y.fan(TURN, 0, 0, 9, 1);
        y.sitter(5, 50);
        y.go(23);
        due.is("at 23 pace 4 alone is at 5", y.paced(0, 1), 4);

        // From 20 to 24 pace 1 is at 4 in the last second; pace 5 would be there all the time.
        OneFan z = new OneFan();
        z.fan(TURN, 0, 0, 9, 2);
        z.sitter(4, 0);
        z.go(20);
        z.heat(0, 50);
        due.is("4 at most", z.paced(0, 5), 1);
    }

    private static void pacedByTheGreatest() {
        // Of seconds 0 to 4 a pace of 1 has one at 0 and one at 4; 2, 3, 4 have two, three, four at 0, none at 4.
        OneFan x = new OneFan();
        x.fan(TURN, 0, 0, 4, 3);
        x.sitter(4, 50);
        x.sitter(0, 50);
        due.is("55 55, not 60 51, 60 48, 60 46", x.paced(0, 5), 1);
        x.sitter(9, 80);
        x.sitter(9, 0);
        due.is("the greatest being 90 anyway, the least 10, all together", x.paced(0, 5), 4);
        due.are("unchanged", 2, w -> x.of(0, w), 0, 4, 3);
    }

    // Promise 21
    private static void seat() {
        OneFan x = new OneFan();
        x.sitter(7, 50);
        due.is("no fans", x.seat(0, 1, 0), 0);
        due.is("no fans", x.seat(0, 1, 1), 52);
        x.fan(FAN, 0, 6, 6, 1);
        due.is("by the fan", x.seat(0, 1, 0), 6);
        due.is("by the fan", x.seat(0, 1, 1), 47);
        x.fan(FAN, 0, 9, 9, 1);
        due.is("of several the least", x.seat(0, 30, 0), 6);
        x.on(0, false);
        due.is("the last place", x.seat(0, 2, 0), 9);
        due.is("the last place", x.seat(0, 2, 1), 45);
        due.is("place, unchanged", x.at(0, 0), 7);
        due.is("heat, unchanged", x.at(0, 1), 50);
        due.is("n 0", x.seat(0, 0, 0), BAD);
        due.is("n 31", x.seat(0, 31, 0), BAD);
        due.is("what 2", x.seat(0, 31, 2), NONE);
        due.is("what -1", x.seat(0, 1, -1), NONE);
        due.is("sitter 1", x.seat(1, 31, 0), NONE);
        due.is("sitter -1", x.seat(-1, 1, 0), NONE);

        OneFan y = Due.withRoom("warm 3 p<8;warm 9 p>8");
        y.sitter(2, 50);
        y.fan(HANDED, 0, 0, 0, 1);
        due.is("the handed fan follows, the room is cool at 8", y.seat(0, 2, 0), 8);
        due.is("the handed fan follows", y.seat(0, 2, 1), 41);
    }

    private static void seatOfPlaces() {
        // A turn comes to each place once; there is no place to which it does not come.
        OneFan x = Due.withRoom("warm 9 r>0");
        x.fan(TURN, 0, 0, 9, 1);
        x.sitter(4, 50);
        due.is("all alike", x.seat(0, 10, 0), 0);
        due.is("all alike", x.seat(0, 10, 1), 50 + 9 - 5);
        due.is("not yet at 9", x.seat(0, 9, 0), 9);
        due.is("not yet at 9", x.seat(0, 9, 1), 50);
    }

    private static void seatsFromNow() {
        OneFan x = new OneFan();
        x.fan(TURN, 0, 0, 3, 1);
        x.image();
        x.sitter(1, 0);
        x.sitter(2, 0);
        x.go(2);
        x.heat(0, 50);
        due.is("at second 2 it is at 2", x.seat(0, 1, 0), 2);
        // it was met at second 1, and so is run 2 then
        due.is("at second 2 it is at 2", x.seat(0, 1, 1), 48);
        due.is("at second 2 it is at 2", x.change(1), 1);
        x.see(0, 1, 48);
        due.is("at second 2 it is at 2", x.sat(0), 4);
        x.go(3);
        x.heat(0, 70);
        x.heat(1, 50);
        due.is("at second 5 it is at 1", x.change(1), -5);
        x.heat(1, 80);
        due.is("at second 5 it is at 1", x.change(1), 1);
    }

    // Promise 22
    private static void change() {
        OneFan x = new OneFan();
        due.is("nobody", x.change(5), -5);
        due.is("n 0, nobody", x.change(0), BAD);
        due.is("n 31, nobody", x.change(31), BAD);
        x.fan(FAN, 0, 2, 2, 1);
        x.sitter(2, 20);
        due.is("one alone", x.change(3), -5);
        x.sitter(5, 70);
        due.is("the hot one to the fan", x.change(3), 1);
        x.move(0, 5);
        x.move(1, 2);
        due.is("it is there", x.change(3), -5);
        x.move(0, 2);
        due.is("both are there", x.change(3), -5);
        x.move(1, 5);
        x.sitter(2, 20);
        due.is("of several the first", x.change(3), 1);
        x.move(0, 7);
        due.is("1 and 2", x.change(3), 12);
        due.is("places, unchanged", x.at(1, 0), 5);
        due.is("places, unchanged", x.at(2, 0), 2);
        due.is("n 30", x.change(30), 12);
        due.is("n 1", x.change(1), 12);
        x.heat(0, 70);
        due.is("no less than without", x.change(3), -5);
        x.heat(0, 69);
        due.is("a little less", x.change(3), 12);
        x.heat(0, 71);
        due.is("0 and 2", x.change(3), 2);
    }

    // Promise 23
    private static void worth() {
        OneFan x = new OneFan();
        due.is("no fan", x.worth(0, 1), -10001);
        x.fan(FAN, 0, 2, 2, 1);
        x.fan(FAN, 0, 3, 3, 1);
        due.is("nobody", x.worth(0, 1), 0);
        x.sitter(2, 50);
        due.is("on", x.worth(0, 3), 12);
        due.is("of no use", x.worth(1, 3), 0);
        x.on(0, false);
        due.is("off", x.worth(0, 3), 12);
        due.is("still off", x.of(0, 5), 0);
        x.on(0, true);
        x.on(1, false);
        x.sitter(3, 50);
        due.is("one is on, one off", x.worth(1, 1), 5);
        due.is("one is on, the other stays off", x.worth(0, 1), 5);
        due.is("fan -1", x.worth(-1, 1), -10001);
        due.is("fan 2", x.worth(2, 61), -10001);
        due.is("n 0", x.worth(0, 0), -10002);
        due.is("n 61", x.worth(0, 61), -10002);
        due.is("n 60, both at 99", x.worth(0, 60), 0);
        // Under the fan it stays at 0 for four seconds, and rises 1 in each from then on.
        x.heat(0, 0);
        due.is("n 60, from 0", x.worth(0, 60), 99 - 56);

        OneFan y = Due.withRoom("warm 9 k=1");
        y.fan(FAN, 0, 9, 9, 1);
        y.sitter(2, 50);
        due.is("below 0", y.worth(0, 2), -18);
        y.on(0, false);
        due.is("below 0, off", y.worth(0, 2), -18);
    }

    private static void byFansThatAreOn() {
        OneFan x = new OneFan();
        x.fan(FAN, 0, 5, 5, 1);
        x.fan(FAN, 0, 2, 2, 1);
        x.on(1, false);
        x.sitter(2, 50);
        x.sitter(5, 60);
        due.is("56 and 54", x.hottest(3), 0);
        due.is("56 less 54", x.even(3), 2);
        due.is("80 behind 15", x.tooHot(0), 15);
        x.turn(0, 9, 9, 1);
        x.heat(0, 20);
        due.is("there is no fan at 2", x.change(3), -5);
        x.turn(0, 2, 2, 1);
        x.turn(1, 5, 5, 1);
        due.is("there is none at 5", x.change(3), 1);

        OneFan y = new OneFan();
        y.fan(FAN, 0, 4, 4, 1);
        y.fan(TURN, 0, 0, 4, 3);
        y.fan(FAN, 0, 9, 9, 1);
        y.on(0, false);
        y.on(2, false);
        y.sitter(4, 50);
        y.sitter(0, 50);
        due.is("55 55, there being no other fan at 4", y.paced(1, 5), 1);
        y.on(0, true);
        due.is("the one at 4 has one", y.paced(1, 5), 4);
    }

    // Promise 24
    private static void round() {
        OneFan x = new OneFan();
        due.is("nobody", x.round(5, 0), -5);
        due.is("nobody", x.round(5, 1), -5);
        due.is("what 2", x.round(61, 2), NONE);
        due.is("what -1", x.round(1, -1), NONE);
        due.is("n 0", x.round(0, 0), BAD);
        due.is("n 61", x.round(61, 1), BAD);
        x.sitter(2, 50);
        x.sitter(5, 50);
        // k 1: 48 48. k 2: 49 49. k 3: 46 53. k 4: 44 58.
        due.is("to and fro", x.round(4, 0), 1);
        due.is("to and fro", x.round(4, 1), 48);
        x.heat(0, 60);
        x.heat(1, 40);
        // k 1: 58 38. k 2: 59 39. k 3: 56 43. k 4: 54 48.
        due.is("held long", x.round(4, 0), 4);
        due.is("held long", x.round(4, 1), 54);
        x.heat(0, 40);
        x.heat(1, 60);
        // k 1: 58. k 2: 59.
        due.is("n 1", x.round(1, 1), 62);
        due.is("handed on at once", x.round(2, 0), 1);
        due.is("handed on at once", x.round(2, 1), 59);
        due.is("unchanged", x.at(1, 1), 60);
    }

    private static void roundsOneFanAlone() {
        // Whoever sits there is met: k 1: 0 and 1 are met twice, then 2; k 2: thrice.
        OneFan x = new OneFan();
        x.sitter(2, 50);
        x.sitter(2, 90);
        x.sitter(5, 10);
        x.fan(FAN, 0, 5, 5, 1);
        x.fan(FAN, 0, 2, 2, 1);
        due.is("two in one place", x.round(3, 0), 2);
        due.is("two in one place", x.round(3, 1), 84);

        // Of 60 seconds 0 has 40 with k 20, 39 with 21, 45 with 45; and 30 with 1.
        OneFan y = Due.withRoom("warm 0 s=0;cool 1 s=0");
        y.sitter(3, 99);
        y.sitter(4, 0);
        due.is("20 at most", y.round(60, 0), 20);
        due.is("20 at most", y.round(60, 1), 59);
        due.is("20 of 21", y.round(21, 0), 20);
        due.is("20 of 21", y.round(21, 1), 79);

        OneFan z = Due.withRoom("warm 1 k=1;warm 2 k=2;cool 5 k=1&t=3");
        z.fan(FAN, 0, 3, 3, 1);
        z.fan(FAN, 0, 3, 3, 1);
        z.sitter(3, 50);
        z.go(2);
        due.is("k of the room is 1, seconds go on from now", z.round(3, 1), 54 + 3 - 5);
    }

    // Promise 25
    private static void meets() {
        OneFan x = new OneFan();
        x.fan(FAN, 0, 2, 2, 1);
        x.fan(TURN, 0, 0, 3, 1);
        x.fan(DOUBLE, 0, 1, 1, 1);
        due.is("at 2 and 6", x.meets(0, 1, 8), 2);
        due.is("the other way round", x.meets(1, 0, 8), 2);
        due.is("reaching is no meeting", x.meets(0, 2, 8), 0);
        due.is("at 1, 5, 9 .. 57", x.meets(1, 2, 60), 15);
        x.on(0, false);
        x.go(3);
        due.is("at 3, 4, 5", x.meets(0, 1, 3), 0);
        due.is("at 6, one being off", x.meets(0, 1, 4), 1);
        due.is("n 1", x.meets(0, 1, 1), 0);
        due.is("one is both", x.meets(0, 0, 1), BAD);
        due.is("n 0", x.meets(0, 1, 0), BAD);
        due.is("n 61", x.meets(0, 1, 61), BAD);
        due.is("fan 3", x.meets(0, 3, 61), NONE);
        due.is("fan 3", x.meets(3, 0, 61), NONE);
        due.is("fan 3 twice", x.meets(3, 3, 1), NONE);
        due.is("fan -1", x.meets(-1, 0, 1), NONE);
        due.is("fan -1", x.meets(0, -1, 1), NONE);
    }

    private static void meetsFromNow() {
        OneFan x = new OneFan();
        x.fan(TURN, 0, 0, 3, 1);
        x.fan(FAN, 0, 2, 2, 1);
        x.fan(HANDED, 0, 5, 5, 1);
        x.image();
        x.go(3);
        due.is("at 3, 4, 5", x.meets(0, 1, 3), 0);
        due.is("at 6", x.meets(0, 1, 4), 1);
        due.is("nobody being there, one is at 5, the other never", x.meets(2, 0, 8), 0);
        x.sitter(1, 0);
        due.is("where one sits", x.meets(0, 2, 6), 1);
        due.is("where one sits", x.meets(2, 0, 7), 2);
        x.sitter(2, 0);
        due.is("10 to 19 at 2", x.meets(2, 1, 17), 10);
        due.is("from 13 to 29: 13 to 19", x.late(1, 2, 17, 0), 10);
        due.is("from 13 to 29: 13 to 19", x.late(1, 2, 17, 1), 7);
    }

    // Promise 26
    private static void late() {
        OneFan x = new OneFan();
        x.fan(FAN, 0, 2, 2, 1);
        x.fan(SWING, 9, 2, 3, 1);
        x.fan(TURN, 0, 0, 3, 1);
        x.fan(TURN, 0, 0, 3, 1);
        // The swing is at 2 for ten seconds, then at 3 for ten.
        due.is("ten later", x.late(0, 1, 10, 0), 10);
        due.is("ten later", x.late(0, 1, 10, 1), 0);
        due.is("later does not help who stands still", x.late(1, 0, 10, 0), 0);
        due.is("later does not help who stands still", x.late(1, 0, 10, 1), 10);
        due.is("one later", x.late(2, 3, 60, 0), 1);
        due.is("one later", x.late(2, 3, 60, 1), 0);
        due.is("all alike", x.late(0, 2, 8, 0), 0);
        due.is("all alike", x.late(0, 2, 8, 1), 2);
        x.go(12);
        due.is("from now, 10 .. 19", x.late(0, 1, 8, 0), 0);
        // 12 .. 22 holds three seconds at 2; eleven in a row hold one at least, first from 29 on.
        due.is("from now", x.late(0, 1, 11, 0), 17);
        due.is("from now", x.late(0, 1, 11, 1), 1);
        due.is("what 2", x.late(0, 1, 61, 2), NONE);
        due.is("what -1", x.late(0, 0, 1, -1), NONE);
        due.is("fan 4", x.late(0, 4, 61, 0), NONE);
        due.is("fan -1", x.late(-1, 0, 1, 0), NONE);
        due.is("one is both", x.late(1, 1, 1, 0), BAD);
        due.is("n 0", x.late(0, 1, 0, 0), BAD);
        due.is("n 61", x.late(0, 1, 61, 1), BAD);

        OneFan y = new OneFan();
        y.fan(FAN, 0, 2, 2, 1);
        y.fan(HANDED, 0, 0, 0, 1);
        for (int s = 0; s < 4; s++) {
            y.sitter(s < 3 ? 2 : 5, 0);
        }
        due.is("30 later is too late", y.late(0, 1, 1, 0), 0);
        due.is("30 later is too late", y.late(0, 1, 1, 1), 1);
        y.go(1);
        due.is("29 later", y.late(0, 1, 1, 0), 29);
        due.is("29 later", y.late(0, 1, 1, 1), 0);
    }

    // Promise 27
    private static void period() {
        OneFan x = new OneFan();
        x.fan(FAN, 0, 2, 5, 4);
        x.fan(SWING, 2, 3, 5, 1);
        x.fan(TURN, 0, 0, 9, 4);
        x.fan(TOLD, 0, 0, 0, 3);
        due.are("period", -1, x::period, NONE, 1, 8, 40, 1, NONE);
        x.row(3, 1, 5);
        due.is("told", x.period(3), 12);
        x.row(3, 3, 5);
        due.is("told", x.period(3), 6);
        x.turn(1, 0, 9, 4);
        due.is("swing", x.period(1), 2 * 9 * 4 + 2 * 2);
        x.turn(1, 4, 4, 4);
        due.is("swing in one place", x.period(1), 1);
        x.on(2, false);
        x.go(7);
        due.is("off, and not from now", x.period(2), 40);

        OneFan y = new OneFan();
        y.fan(HANDED, 0, 0, 0, 1);
        y.fan(HOLD, 3, 0, 9, 1);
        y.fan(DOUBLE, 9, 0, 9, 4);
        due.are("period", 0, y::period, 1, 1, 90);
        y.sitter(1, 0);
        due.is("handed, one", y.period(0), 1);
        y.sitter(2, 0);
        due.is("handed, two", y.period(0), 20);
        y.sitter(1, 0);
        due.is("handed, three", y.period(0), 30);
        y.sitter(2, 0);
        due.is("handed, 1 2 1 2", y.period(0), 20);
        y.sitter(1, 0);
        y.sitter(3, 0);
        due.is("handed, six", y.period(0), 60);
    }
}
