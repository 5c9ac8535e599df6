import java.util.ArrayList;
import java.util.Arrays;
import java.util.HashMap;
import java.util.List;
import java.util.Map;

/**
 * The document once more, as plainly and as unlike the class as may be: positions are looked up in written-out
 * rounds, clauses stay texts, seconds are played on copies, faults are found by what may stand where.
 */
final class Model {
    static final int NONE = -1, BAD = -2, STATE = -3, FULL = -4;
    private static final int[] ABOVE = {-1, 0, 0, 0, 1, 3, 2};
    private static final Map<String, Integer> BODIES = new HashMap<>();

    static {
        BODIES.put("0 0", 1);
        BODIES.put("0 1", 2);
        BODIES.put("0 2", 3);
        BODIES.put("1 0", 11);
        BODIES.put("2 1", 21);
        BODIES.put("3 2", 31);
        BODIES.put("4 2", 41);
        BODIES.put("5 0", 51);
        BODIES.put("6 1", 61);
    }

    private static final class F implements Cloneable {
        int kind, v, from, to, pace;
        boolean on = true;
        int[] row = new int[4];

        F copy() {
            F c = new F();
            c.kind = kind;
            c.v = v;
            c.from = from;
            c.to = to;
            c.pace = pace;
            c.on = on;
            c.row = row.clone();
            return c;
        }
    }

    private static final class S {
        int place, heat, run, met;

        S copy() {
            S c = new S();
            c.place = place;
            c.heat = heat;
            c.run = run;
            return c;
        }
    }

    /** All there is but the image and the trace. */
    private static final class All {
        List<F> fans = new ArrayList<>();
        List<S> sitters = new ArrayList<>();
        String tape = "";
        String room = null;
        int rooms, second, flown;
        List<int[]> heats = new ArrayList<>(), rules = new ArrayList<>(), books = new ArrayList<>();

        All copy() {
            All c = new All();
            fans.forEach(f -> c.fans.add(f.copy()));
            sitters.forEach(s -> c.sitters.add(s.copy()));
            c.tape = tape;
            c.room = room;
            c.rooms = rooms;
            c.second = second;
            c.flown = flown;
            c.heats.addAll(heats);
            c.rules.addAll(rules);
            c.books.addAll(books);
            return c;
        }
    }

    private All all = new All();
    private All image = null;
    private List<Integer> trace = new ArrayList<>();

    // ---- rooms as texts

    /** The fault of a text, or -1. Opens are kept as a text of ! and (. */
    static int fault(String text) {
        String state = "word";
        String word = "";
        String open = "";
        String digits = "";
        int clauses = 0;
        for (int i = 0; i <= text.length(); i++) {
            boolean end = i == text.length();
            char c = end ? '$' : text.charAt(i);
            if (state.equals("digits") || state.equals("test digits")) {
                boolean more = c >= '0' && c <= '9' && (digits.isEmpty() || digits.length() == 1 && !digits.equals("0"));
                if (more) {
                    digits += c;
                    continue;
                }
                if (digits.isEmpty()) {
                    return i;
                }
                if (state.equals("test digits")) {
                    state = "behind F";
                } else if (word.equals("hot ") || word.equals("fly ")) {
                    state = "behind clause";
                } else if (c == ' ') {
                    state = "F";
                    continue;
                } else {
                    return i;
                }
            }
            if (state.equals("behind F")) {
                while (open.endsWith("!")) {
                    open = open.substring(0, open.length() - 1);
                }
                if (c == '&' || c == '|') {
                    state = "F";
                    continue;
                }
                if (c == ')' && open.endsWith("(")) {
                    open = open.substring(0, open.length() - 1);
                    continue;
                }
                if (!open.isEmpty()) {
                    return i;
                }
                state = "behind clause";
            }
            switch (state) {
                case "behind clause" -> {
                    clauses++;
                    if (end) {
                        return -1;
                    }
                    if (c != ';' || clauses == 10) {
                        return i;
                    }
                    state = "word";
                    word = "";
                }
                case "word" -> {
                    String longer = word + c;
                    if (List.of("hot ", "fly ", "warm ", "cool ").stream().noneMatch(w -> w.startsWith(longer))) {
                        return i;
                    }
                    word = longer;
                    if (c == ' ') {
                        state = "digits";
                        digits = "";
                    }
                }
                case "F" -> {
                    if (c == '!' || c == '(') {
                        if (open.length() == 5) {
                            return i;
                        }
                        open += c;
                    } else if ("sphrtk".indexOf(c) >= 0) {
                        state = "order";
                    } else {
                        return i;
                    }
                }
                case "order" -> {
                    if ("<=>".indexOf(c) < 0) {
                        return i;
                    }
                    state = "test digits";
                    digits = "";
                }
                default -> throw new IllegalStateException(state);
            }
        }
        throw new IllegalStateException(text);
    }

    private List<String[]> clauses(String word) {
        List<String[]> found = new ArrayList<>();
        if (all.room != null) {
            for (String clause : all.room.split(";")) {
                String[] parts = clause.split(" ");
                if (parts[0].equals(word)) {
                    found.add(parts);
                }
            }
        }
        return found;
    }

    private int lastOr(String word, int without) {
        List<String[]> found = clauses(word);
        return found.isEmpty() ? without : Integer.parseInt(found.get(found.size() - 1)[1]);
    }

    private static List<String> split(String e, char at) {
        List<String> parts = new ArrayList<>();
        int depth = 0;
        StringBuilder part = new StringBuilder();
        for (char c : e.toCharArray()) {
            depth += c == '(' ? 1 : c == ')' ? -1 : 0;
            if (c == at && depth == 0) {
                parts.add(part.toString());
                part.setLength(0);
            } else {
                part.append(c);
            }
        }
        parts.add(part.toString());
        return parts;
    }

    private static boolean holds(String e, Map<Character, Integer> values) {
        List<String> terms = split(e, '|');
        if (terms.size() > 1) {
            return terms.stream().anyMatch(t -> holds(t, values));
        }
        List<String> factors = split(e, '&');
        if (factors.size() > 1) {
            return factors.stream().allMatch(f -> holds(f, values));
        }
        if (e.charAt(0) == '!') {
            return !holds(e.substring(1), values);
        }
        if (e.charAt(0) == '(') {
            return holds(e.substring(1, e.length() - 1), values);
        }
        int value = values.get(e.charAt(0));
        int number = Integer.parseInt(e.substring(2));
        return switch (e.charAt(1)) {
            case '<' -> value < number;
            case '=' -> value == number;
            default -> value > number;
        };
    }

    // ---- where fans are, and seconds

    private int where(F f, int t, List<S> sitters) {
        List<Integer> round = new ArrayList<>();
        switch (f.kind) {
            case 0 -> round.add(f.from);
            case 1, 4 -> {
                for (int place = f.from; place <= f.to; place++) {
                    for (int i = 0; i < f.pace + (place == f.from || place == f.to ? f.v : 0); i++) {
                        round.add(place);
                    }
                }
                for (int place = f.to - 1; place > f.from; place--) {
                    for (int i = 0; i < f.pace; i++) {
                        round.add(place);
                    }
                }
            }
            case 2 -> {
                for (int place = f.from; place <= f.to; place++) {
                    for (int i = 0; i < f.pace; i++) {
                        round.add(place);
                    }
                }
            }
            case 3 -> round.add(f.v);
            case 5 -> {
                if (sitters.isEmpty()) {
                    round.add(f.from);
                }
                for (S s : sitters) {
                    for (int i = 0; i < 10; i++) {
                        round.add(s.place);
                    }
                }
            }
            default -> {
                for (int place : f.row) {
                    for (int i = 0; i < f.pace; i++) {
                        round.add(place);
                    }
                }
            }
        }
        return round.get(t % round.size());
    }

    private boolean reaches(F f, int t, List<S> sitters, int place) {
        int is = where(f, t, sitters);
        return place == is || f.kind == 4 && place == is + 1;
    }

    private List<S> copies() {
        List<S> copies = new ArrayList<>();
        all.sitters.forEach(s -> copies.add(s.copy()));
        return copies;
    }

    private interface Meets {
        boolean meets(S s, int t);
    }

    private void second(List<S> sitters, int t, int on, Meets meets) {
        for (int number = 0; number < sitters.size(); number++) {
            S s = sitters.get(number);
            boolean met = meets.meets(s, t);
            s.run = met ? Math.min(9, s.run + 1) : 0;
            s.met += met ? 1 : 0;
            Map<Character, Integer> values = Map.of('s', number, 'p', s.place, 'h', s.heat / 10, 'r', s.run, 't', t % 10,
                'k', on);
            int more = 2;
            int less = Math.max(1, 6 - s.run);
            if (!clauses("warm").isEmpty()) {
                more = clauses("warm").stream().filter(c -> holds(c[2], values)).mapToInt(c -> Integer.parseInt(c[1])).sum();
            }
            if (!clauses("cool").isEmpty()) {
                less = clauses("cool").stream().filter(c -> holds(c[2], values)).mapToInt(c -> Integer.parseInt(c[1])).sum();
            }
            int heat = s.heat + more - (met ? less : 0);
            s.heat = heat < 0 ? 0 : heat > 99 ? 99 : heat;
        }
    }

    private void seconds(List<S> sitters, int n, List<F> on) {
        for (int i = 0; i < n; i++) {
            second(sitters, all.second + i, on.size(), (s, t) -> on.stream().anyMatch(f -> reaches(f, t, sitters, s.place)));
        }
    }

    private List<F> on() {
        return all.fans.stream().filter(f -> f.on).toList();
    }

    private List<S> behind(int n) {
        List<S> sitters = copies();
        seconds(sitters, n, on());
        return sitters;
    }

    private static int greatest(List<S> sitters) {
        return sitters.stream().mapToInt(s -> s.heat).max().orElse(0);
    }

    private static int together(List<S> sitters) {
        return sitters.stream().mapToInt(s -> s.heat).sum();
    }

    private boolean noFan(int fan) {
        return fan < 0 || fan >= all.fans.size();
    }

    private boolean noSitter(int sitter) {
        return sitter < 0 || sitter >= all.sitters.size();
    }

    private static boolean out(int n, int least, int most) {
        return n < least || n > most;
    }

    // ---- the calls

    int feed(int sign) {
        if (out(sign, 0, 127)) return BAD;
        if (all.tape.length() == 100) return FULL;
        all.tape += (char) sign;
        return all.tape.length();
    }

    int room() {
        if (all.rooms == 5) return FULL;
        String text = all.tape;
        all.tape = "";
        int fault = fault(text);
        if (fault >= 0) return -10 - fault;
        all.room = text;
        return all.rooms++;
    }

    int fan(int kind, int v, int from, int to, int pace) {
        if (out(kind, 0, 6)) return NONE;
        if (out(v, 0, 9) || out(from, 0, 9) || out(to, from, 9) || out(pace, 1, 4)) return BAD;
        if (all.fans.size() == 4) return FULL;
        F f = new F();
        f.kind = kind;
        f.v = v;
        f.from = from;
        f.to = to;
        f.pace = pace;
        all.fans.add(f);
        return all.fans.size() - 1;
    }

    int of(int fan, int what) {
        if (noFan(fan) || out(what, 0, 6)) return NONE;
        F f = all.fans.get(fan);
        return new int[] {f.kind, f.v, f.from, f.to, f.pace, f.on ? 1 : 0, where(f, all.second, all.sitters)}[what];
    }

    int turn(int fan, int from, int to, int pace) {
        if (noFan(fan)) return NONE;
        if (out(from, 0, 9) || out(to, from, 9) || out(pace, 1, 4)) return BAD;
        F f = all.fans.get(fan);
        f.from = from;
        f.to = to;
        f.pace = pace;
        return where(f, all.second, all.sitters);
    }

    int on(int fan, boolean is) {
        if (noFan(fan)) return NONE;
        boolean was = all.fans.get(fan).on;
        all.fans.get(fan).on = is;
        return was ? 1 : 0;
    }

    int row(int fan, int k, int n) {
        if (noFan(fan) || out(k, 0, 3)) return NONE;
        if (out(n, 0, 9)) return BAD;
        if (all.fans.get(fan).kind != 6) return STATE;
        int was = all.fans.get(fan).row[k];
        all.fans.get(fan).row[k] = n;
        return was;
    }

    int sitter(int place, int heat) {
        if (out(place, 0, 9)) return NONE;
        if (out(heat, 0, 99)) return BAD;
        if (all.sitters.size() == 6) return FULL;
        S s = new S();
        s.place = place;
        s.heat = heat;
        all.sitters.add(s);
        return all.sitters.size() - 1;
    }

    private boolean meets(F f, S s, int t) {
        return f.on && reaches(f, t, all.sitters, s.place);
    }

    int at(int sitter, int what) {
        if (noSitter(sitter) || out(what, 0, 3)) return NONE;
        S s = all.sitters.get(sitter);
        int bits = 0;
        for (int f = 0; f < all.fans.size(); f++) {
            bits += meets(all.fans.get(f), s, all.second) ? 1 << f : 0;
        }
        return new int[] {s.place, s.heat, s.run, bits}[what];
    }

    int move(int sitter, int place) {
        if (noSitter(sitter) || out(place, 0, 9)) return NONE;
        int was = all.sitters.get(sitter).place;
        all.sitters.get(sitter).place = place;
        return was;
    }

    int heat(int sitter, int n) {
        if (noSitter(sitter)) return NONE;
        if (out(n, 0, 99)) return BAD;
        int was = all.sitters.get(sitter).heat;
        all.sitters.get(sitter).heat = n;
        return was;
    }

    int told(int what) {
        if (out(what, 0, 2)) return NONE;
        return new int[] {all.second, lastOr("hot", 80), Math.max(1, lastOr("fly", 3))}[what];
    }

    int go(int n) {
        if (out(n, 0, 60)) return BAD;
        if (all.second + n > 99999) return STATE;
        seconds(all.sitters, n, on());
        return all.second += n;
    }

    int is(int fan, int second) {
        if (noFan(fan)) return NONE;
        if (out(second, 0, 9999)) return BAD;
        return where(all.fans.get(fan), second, all.sitters);
    }

    int then(int n, int what) {
        int size = all.sitters.size();
        if (out(what, 0, 1) && out(what, 10, 9 + size) && out(what, 20, 19 + size)) return NONE;
        if (out(n, 0, 60)) return BAD;
        List<S> then = behind(n);
        return what == 0 ? greatest(then) : what == 1 ? together(then) : what < 20 ? then.get(what - 10).heat
            : then.get(what - 20).met;
    }

    int hottest(int n) {
        if (out(n, 0, 60)) return BAD;
        List<S> then = behind(n);
        for (int s = 0; s < then.size(); s++) {
            if (then.get(s).heat == greatest(then)) return s;
        }
        return -5;
    }

    int tooHot(int sitter) {
        if (noSitter(sitter)) return NONE;
        for (int n = 0; n <= 60; n++) {
            if (behind(n).get(sitter).heat >= told(1)) return n;
        }
        return -5;
    }

    private static int[] least(List<int[]> rows) {
        return rows.stream().min(Arrays::compare).orElseThrow();
    }

    int set(int fan, int n, int what) {
        if (noFan(fan) || out(what, 0, 1)) return NONE;
        if (out(n, 1, 30)) return BAD;
        F old = all.fans.get(fan);
        List<int[]> rows = new ArrayList<>();
        for (int to = 9; to >= 0; to--) {
            for (int from = to; from >= 0; from--) {
                F other = old.copy();
                other.from = from;
                other.to = to;
                all.fans.set(fan, other);
                List<S> then = behind(n);
                rows.add(new int[] {greatest(then), together(then), from, to});
            }
        }
        all.fans.set(fan, old);
        int[] best = least(rows);
        return what == 1 ? best[0] : best[2] * 10 + best[3];
    }

    int paced(int fan, int n) {
        if (noFan(fan)) return NONE;
        if (out(n, 1, 30)) return BAD;
        F old = all.fans.get(fan);
        List<int[]> rows = new ArrayList<>();
        for (int pace = 4; pace >= 1; pace--) {
            F other = old.copy();
            other.pace = pace;
            all.fans.set(fan, other);
            List<S> then = behind(n);
            rows.add(new int[] {greatest(then), together(then), pace});
        }
        all.fans.set(fan, old);
        return least(rows)[2];
    }

    private int heatAt(int sitter, int place, int n) {
        List<S> sitters = copies();
        sitters.get(sitter).place = place;
        seconds(sitters, n, on());
        return sitters.get(sitter).heat;
    }

    int seat(int sitter, int n, int what) {
        if (noSitter(sitter) || out(what, 0, 1)) return NONE;
        if (out(n, 1, 30)) return BAD;
        List<int[]> rows = new ArrayList<>();
        for (int place = 9; place >= 0; place--) {
            rows.add(new int[] {heatAt(sitter, place, n), place});
        }
        return least(rows)[1 - what];
    }

    int change(int n) {
        if (out(n, 1, 30)) return BAD;
        List<int[]> rows = new ArrayList<>();
        rows.add(new int[] {greatest(behind(n)), -5});
        for (int a = 0; a < all.sitters.size(); a++) {
            for (int b = a + 1; b < all.sitters.size(); b++) {
                List<S> sitters = copies();
                int place = sitters.get(a).place;
                sitters.get(a).place = sitters.get(b).place;
                sitters.get(b).place = place;
                seconds(sitters, n, on());
                rows.add(new int[] {greatest(sitters), a * 10 + b});
            }
        }
        return least(rows)[1];
    }

    int worth(int fan, int n) {
        if (noFan(fan)) return -10001;
        if (out(n, 1, 60)) return -10002;
        int now = together(behind(n));
        F f = all.fans.get(fan);
        boolean was = f.on;
        f.on = !was;
        int other = together(behind(n));
        f.on = was;
        return was ? other - now : now - other;
    }

    int round(int n, int what) {
        if (out(what, 0, 1)) return NONE;
        if (out(n, 1, 60)) return BAD;
        if (all.sitters.isEmpty()) return -5;
        List<int[]> rows = new ArrayList<>();
        for (int k = 20; k >= 1; k--) {
            List<S> sitters = copies();
            int has = 0;
            int left = k;
            for (int i = 0; i < n; i++) {
                if (left == 0) {
                    has = has + 1 == sitters.size() ? 0 : has + 1;
                    left = k;
                }
                left--;
                int place = sitters.get(has).place;
                second(sitters, all.second + i, 1, (s, t) -> s.place == place);
            }
            rows.add(new int[] {greatest(sitters), k});
        }
        return least(rows)[1 - what];
    }

    private int meetings(int one, int other, int n, int later) {
        int met = 0;
        for (int t = all.second; t < all.second + n; t++) {
            met += where(all.fans.get(one), t, all.sitters) == where(all.fans.get(other), t + later, all.sitters) ? 1 : 0;
        }
        return met;
    }

    int meets(int one, int other, int n) {
        if (noFan(one) || noFan(other)) return NONE;
        if (one == other || out(n, 1, 60)) return BAD;
        return meetings(one, other, n, 0);
    }

    int late(int one, int other, int n, int what) {
        if (noFan(one) || noFan(other) || out(what, 0, 1)) return NONE;
        if (one == other || out(n, 1, 60)) return BAD;
        List<int[]> rows = new ArrayList<>();
        for (int later = 29; later >= 0; later--) {
            rows.add(new int[] {meetings(one, other, n, later), later});
        }
        return least(rows)[1 - what];
    }

    int period(int fan) {
        if (noFan(fan)) return NONE;
        int[] at = new int[400];
        for (int t = 0; t < 400; t++) {
            at[t] = where(all.fans.get(fan), t, all.sitters);
        }
        for (int p = 1; p <= 200; p++) {
            if (Arrays.equals(at, 0, 200, at, p, p + 200)) return p;
        }
        return -5;
    }

    private int papersOf(List<F> on, int n) {
        int bits = 0;
        for (int place = 0; place < 10; place++) {
            StringBuilder reached = new StringBuilder();
            for (int t = all.second; t < all.second + n; t++) {
                boolean is = false;
                for (F f : on) {
                    is |= reaches(f, t, all.sitters, place);
                }
                reached.append(is ? 'x' : '.');
            }
            bits += reached.toString().contains("x".repeat(told(2))) ? 1 << place : 0;
        }
        return bits;
    }

    int papers(int n) {
        return out(n, 1, 60) ? BAD : papersOf(on(), n);
    }

    int flown(int bits) {
        if (out(bits, 0, 1023)) return BAD;
        int was = all.flown;
        all.flown = bits;
        return was;
    }

    int which(int n) {
        if (out(n, 1, 60)) return BAD;
        int bits = 0;
        for (int f = 0; f < all.fans.size(); f++) {
            bits += papersOf(List.of(all.fans.get(f)), n) == all.flown ? 1 << f : 0;
        }
        return bits;
    }

    int see(int sitter, int n, int heat) {
        if (sitter == -1) {
            all.heats.clear();
            return 0;
        }
        if (noSitter(sitter)) return NONE;
        if (out(n, 0, 60) || out(heat, 0, 99)) return BAD;
        if (all.heats.size() == 6) return FULL;
        all.heats.add(new int[] {sitter, n, heat});
        return all.heats.size();
    }

    int sat(int sitter) {
        if (noSitter(sitter)) return NONE;
        int bits = 0;
        for (int place = 0; place < 10; place++) {
            int sits = place;
            bits += all.heats.stream().filter(h -> h[0] == sitter).allMatch(h -> heatAt(sitter, sits, h[1]) == h[2])
                ? 1 << place : 0;
        }
        return bits;
    }

    private static long part(int above, int below, int part) {
        int a = above;
        int b = below;
        while (b != 0) {
            int rest = a % b;
            a = b;
            b = rest;
        }
        return part == 0 ? above / a : below / a;
    }

    long odds(int sitter, int n, int part) {
        if (noSitter(sitter) || out(n, 1, 30) || out(part, 0, 1)) return Long.MIN_VALUE;
        int good = 0;
        for (int start = 0; start < 20; start++) {
            boolean met = false;
            for (int t = start; t < start + n; t++) {
                for (F f : all.fans) {
                    met |= meets(f, all.sitters.get(sitter), t);
                }
            }
            good += met ? 1 : 0;
        }
        return part(good, 20, part);
    }

    long mean(int fan, int n, int part) {
        if (noFan(fan) || out(n, 1, 60) || out(part, 0, 1)) return Long.MIN_VALUE;
        int sum = 0;
        for (int t = all.second; t < all.second + n; t++) {
            sum += where(all.fans.get(fan), t, all.sitters);
        }
        return part(sum, n, part);
    }

    int even(int n) {
        if (out(n, 0, 60)) return BAD;
        List<S> then = behind(n);
        return then.isEmpty() ? -5 : greatest(then) - then.stream().mapToInt(s -> s.heat).min().orElseThrow();
    }

    int rule(int fan, int seconds) {
        if (seconds == -1) {
            all.rules.clear();
            return 0;
        }
        if (fan != -1 && noFan(fan)) return NONE;
        if (out(seconds, 1, 20)) return BAD;
        if (all.rules.size() == 4) return FULL;
        all.rules.add(new int[] {fan, seconds});
        return all.rules.size();
    }

    int ruled(int n, int what) {
        if (out(what, 0, 1)) return NONE;
        if (out(n, 1, 60)) return BAD;
        if (all.rules.isEmpty() || all.sitters.isEmpty()) return -5;
        List<Integer> round = new ArrayList<>();
        for (int[] rule : all.rules) {
            for (int i = 0; i < rule[1]; i++) {
                round.add(rule[0]);
            }
        }
        List<S> sitters = copies();
        int changes = 0;
        int last = -2;
        for (int i = 0; i < n; i++) {
            int fan = round.get(i % round.size());
            changes += last != -2 && last != fan ? 1 : 0;
            last = fan;
            second(sitters, all.second + i, fan < 0 ? 0 : 1,
                (s, t) -> fan >= 0 && reaches(all.fans.get(fan), t, sitters, s.place));
        }
        return what == 0 ? greatest(sitters) : changes;
    }

    int book(int fan, int second, int place) {
        if (fan == -1) {
            all.books.clear();
            return 0;
        }
        if (noFan(fan) || out(place, 0, 9)) return NONE;
        if (out(second, 0, 999)) return BAD;
        if (all.books.size() == 8) return FULL;
        all.books.add(new int[] {fan, second, place});
        return all.books.size();
    }

    int looked() {
        for (int i = 0; i < all.books.size(); i++) {
            int[] row = all.books.get(i);
            if (is(row[0], row[1]) != row[2]) return i;
        }
        return -5;
    }

    private int call(int i, int from, int act, int x) {
        int kind = from;
        while (!BODIES.containsKey(kind + " " + act)) {
            kind = ABOVE[kind];
        }
        F f = all.fans.get(i);
        int body = BODIES.get(kind + " " + act);
        trace.add(body);
        return switch (body) {
            case 1 -> x + i;
            case 2 -> call(i, f.kind, 0, x) - f.v;
            case 3 -> call(i, f.kind, 1, x) * 2;
            case 11 -> call(i, 0, 0, x * 3);
            case 21 -> -call(i, 0, 1, x);
            case 31 -> call(i, 0, 2, x) ^ 7;
            case 41 -> call(i, 1, 2, x - 1) + call(i, f.kind, 0, 2);
            case 51 -> call(i, 3, 0, x) ^ i;
            default -> call(i, 2, 1, x) + f.v;
        };
    }

    int act(int fan, int act, int x) {
        trace = new ArrayList<>();
        return noFan(fan) || out(act, 0, 2) ? 0 : call(fan, all.fans.get(fan).kind, act, x);
    }

    int trace(int i) {
        return i < 0 || i >= Math.min(20, trace.size()) ? NONE : trace.get(i);
    }

    int as(int fan, int k) {
        if (noFan(fan) || out(k, 0, 6)) return NONE;
        for (int kind = all.fans.get(fan).kind; kind >= 0; kind = ABOVE[kind]) {
            if (kind == k) return all.fans.get(fan).v;
        }
        return -6;
    }

    int image() {
        image = all.copy();
        return all.fans.size();
    }

    int undo() {
        if (image == null) return STATE;
        all = image.copy();
        return all.fans.size();
    }

    int count(int what) {
        if (out(what, 0, 7)) return NONE;
        return new int[] {all.fans.size(), all.sitters.size(), all.rooms, all.heats.size(), all.rules.size(),
            all.books.size(), all.tape.length(), trace.size()}[what];
    }
}
