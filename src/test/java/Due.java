/** Counts the answers that are not as due; every test of the project ends with end(). */
final class Due {
    private final String test;
    private int asked = 0;
    private int wrong = 0;

    Due(String test) {
        this.test = test;
    }

    void is(String call, long got, long want) {
        asked++;
        if (got != want) {
            wrong++;
            System.out.println(test + ": " + call + " answered " + got + ", due is " + want);
        }
    }

    void isTrue(String what, boolean so) {
        is(what, so ? 1 : 0, 1);
    }

    /** One answer after the other, the first being that of number from. */
    void are(String call, int from, java.util.function.IntToLongFunction ask, long... wants) {
        for (int i = 0; i < wants.length; i++) {
            is(call + " for " + (from + i), ask.applyAsLong(from + i), wants[i]);
        }
    }

    void end() {
        System.out.println(test + ": " + asked + " answers asked, " + wrong + " not as due");
        if (wrong != 0) {
            System.exit(1);
        }
    }

    static OneFan fed(OneFan x, String text) {
        for (char sign : text.toCharArray()) {
            x.feed(sign);
        }
        return x;
    }

    /** A new object with this room in it. */
    static OneFan withRoom(String text) {
        OneFan x = fed(new OneFan(), text);
        if (x.room() != 0) {
            throw new IllegalStateException("no room: " + text);
        }
        return x;
    }
}
