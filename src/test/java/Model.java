import java.util.ArrayList;
import java.util.Arrays;
import java.util.Collections;
import java.util.Comparator;
import java.util.HashMap;
import java.util.HashSet;
import java.util.List;
import java.util.Map;
import java.util.PriorityQueue;
import java.util.Random;
import java.util.Set;
import java.util.TreeSet;

/**
 * The document once more, told as plainly as can be and in other ways than the class does it:
 * routes and games are all tried out, laws are trees. It is slow and knows no limit of room.
 */
final class Model {
    private static final int NONE = -1;

    interface Sum {
        long of(Asked a);
    }

    interface Truth {
        boolean of(Asked a);
    }

    static final class Asked {
        long station;
        long dull;
        long kind;
        long size;
        long from;
        long hours;
    }

    static final class Fault extends RuntimeException {
        private static final long serialVersionUID = 1L;
        final int kind;
        final int place;

        Fault(int kind, int place) {
            super(null, null, false, false);
            this.kind = kind;
            this.place = place;
        }
    }

    static final class Told {
        int stations;
        int[] kind = new int[7];
        int[][] hours = new int[7][7];
        int[][] odds = new int[7][7];
        Truth takes;
        Sum passes;
        int lines;
    }

    static final class Now {
        int where = NONE;
        int size;
        int hours;
        Set<Integer> asleep = new TreeSet<>();
        int[] dull = new int[7];

        Now copy() {
            Now c = new Now();
            c.where = where;
            c.size = size;
            c.hours = hours;
            c.asleep = new TreeSet<>(asleep);
            c.dull = dull.clone();
            return c;
        }
    }

    private Told told = new Told();
    private Now now = new Now();
    private final List<Now> past = new ArrayList<>();
    private StringBuilder tape = new StringBuilder();
    private int faultKind;
    private int faultPlace = NONE;
    private final long[][] trays = new long[4][];
    private final int[] sorts = new int[4];
    private final Told[] imageTold = new Told[2];
    private final Now[] imageNow = new Now[2];

    // ---- reading.

    private static final class Reading {
        final String text;
        final List<String> tokens = new ArrayList<>();
        final List<Integer> places = new ArrayList<>();
        int i;
        Told t = new Told();
        Now n = new Now();

        Reading(String text) {
            this.text = text;
            int p = 0;
            while (p < text.length()) {
                char c = text.charAt(p);
                if (c == ' ' || c == '\n') {
                    p++;
                    continue;
                }
                int q = p;
                while (q < text.length() && Character.toString(text.charAt(q)).matches("[a-z]")) {
                    q++;
                }
                if (q == p) {
                    while (q < text.length() && Character.toString(text.charAt(q)).matches("[0-9]")) {
                        q++;
                    }
                    if (q - p > 3) {
                        break;
                    }
                }
                if (q == p && Character.toString(c).matches("[;:+*()=<>\\[\\]-]")) {
                    q++;
                }
                if (q == p) {
                    break;
                }
                tokens.add(text.substring(p, q));
                places.add(p);
                p = q;
            }
            tokens.add(p < text.length() ? "?" : "");
            places.add(p);
        }

        String peek() {
            return tokens.get(i);
        }

        RuntimeException cant() {
            return new Fault(peek().equals("?") ? 1 : 2, places.get(i));
        }

        void want(String token) {
            if (!peek().equals(token)) {
                throw cant();
            }
            i++;
        }

        int number(int least, int most, int but) {
            if (!peek().matches("[0-9]+")) {
                throw cant();
            }
            int v = Integer.parseInt(peek());
            if (v < least || v > most || v == but) {
                throw new Fault(3, places.get(i));
            }
            i++;
            return v;
        }

        void all() {
            want("net");
            want(";");
            t.lines = 1;
            while (!peek().isEmpty()) {
                line();
                want(";");
                t.lines++;
            }
        }

        void line() {
            String first = peek();
            if (first.equals("station") && t.stations == 7) {
                throw new Fault(4, places.get(i));
            }
            if (!List.of("station", "way", "at", "takes", "passes").contains(first)) {
                throw cant();
            }
            i++;
            if (first.equals("station")) {
                int s = t.stations++;
                while (List.of("dull", "kind", "asleep").contains(peek())) {
                    String flag = tokens.get(i++);
                    if (flag.equals("dull")) {
                        n.dull[s] = number(0, 9, NONE);
                    } else if (flag.equals("kind")) {
                        t.kind[s] = number(0, 9, NONE);
                    } else {
                        n.asleep.add(s);
                    }
                }
            } else if (first.equals("way")) {
                int from = number(0, t.stations - 1, NONE);
                int to = number(0, t.stations - 1, from);
                t.hours[from][to] = 1;
                t.odds[from][to] = 1;
                while (List.of("hours", "odds").contains(peek())) {
                    if (tokens.get(i++).equals("hours")) {
                        t.hours[from][to] = number(1, 9, NONE);
                    } else {
                        t.odds[from][to] = number(0, 10, NONE);
                    }
                }
            } else if (first.equals("at")) {
                n.where = number(0, t.stations - 1, NONE);
                want("size");
                n.size = number(1, 40, NONE);
            } else if (first.equals("takes")) {
                want(":");
                t.takes = truth(0);
            } else {
                want(":");
                t.passes = sum(0);
            }
        }

        Truth truth(int open) {
            Truth left = both(open);
            while (peek().equals("or")) {
                i++;
                Truth a = left;
                Truth b = both(open);
                left = x -> a.of(x) || b.of(x);
            }
            return left;
        }

        Truth both(int open) {
            Truth left = unit(open);
            while (peek().equals("and")) {
                i++;
                Truth a = left;
                Truth b = unit(open);
                left = x -> a.of(x) && b.of(x);
            }
            return left;
        }

        void open(int open) {
            if (open == 6) {
                throw new Fault(4, places.get(i));
            }
            i++;
        }

        Truth unit(int open) {
            if (peek().equals("not")) {
                open(open);
                Truth a = unit(open + 1);
                return x -> !a.of(x);
            }
            if (peek().equals("[")) {
                open(open);
                Truth a = truth(open + 1);
                want("]");
                return a;
            }
            Sum a = sum(open);
            String sign = peek();
            if (!List.of("=", "<", ">").contains(sign)) {
                throw cant();
            }
            i++;
            Sum b = sum(open);
            if (sign.equals("=")) {
                return x -> a.of(x) == b.of(x);
            }
            return sign.equals("<") ? x -> a.of(x) < b.of(x) : x -> a.of(x) > b.of(x);
        }

        static long keep(long v) {
            return v > 1000000 ? 1000000 : v < -1000000 ? -1000000 : v;
        }

        Sum sum(int open) {
            Sum left = term(open);
            while (List.of("+", "-").contains(peek())) {
                boolean plus = tokens.get(i++).equals("+");
                Sum a = left;
                Sum b = term(open);
                left = plus ? x -> keep(a.of(x) + b.of(x)) : x -> keep(a.of(x) - b.of(x));
            }
            return left;
        }

        Sum term(int open) {
            Sum left = atom(open);
            while (peek().equals("*")) {
                i++;
                Sum a = left;
                Sum b = atom(open);
                left = x -> keep(a.of(x) * b.of(x));
            }
            return left;
        }

        Sum atom(int open) {
            String token = peek();
            if (token.matches("[0-9]+")) {
                i++;
                long v = Long.parseLong(token);
                return x -> v;
            }
            if (token.equals("(")) {
                open(open);
                Sum a = sum(open + 1);
                want(")");
                return a;
            }
            if (token.equals("if")) {
                open(open);
                Truth c = truth(open + 1);
                want("then");
                Sum a = sum(open + 1);
                want("else");
                Sum b = sum(open + 1);
                want("end");
                return x -> c.of(x) ? a.of(x) : b.of(x);
            }
            Sum asked = asked(token);
            if (asked == null) {
                throw cant();
            }
            i++;
            return asked;
        }

        static Sum asked(String word) {
            switch (word) {
                case "station": return x -> x.station;
                case "dull": return x -> x.dull;
                case "kind": return x -> x.kind;
                case "size": return x -> x.size;
                case "from": return x -> x.from;
                case "hours": return x -> x.hours;
                default: return null;
            }
        }
    }

    // ---- the net.

    int feed(int a, int b, int c, int d, int e) {
        if (tape.length() + 20 > 900) {
            return -5;
        }
        for (int four : new int[] {a, b, c, d, e}) {
            tape.append((char) (four >>> 24 & 255)).append((char) (four >>> 16 & 255));
            tape.append((char) (four >>> 8 & 255)).append((char) (four & 255));
        }
        return tape.length();
    }

    int net(int n) {
        if (n < 0 || n > tape.length()) {
            return -3;
        }
        Reading r = new Reading(tape.substring(0, n));
        tape = new StringBuilder();
        faultKind = 0;
        faultPlace = NONE;
        try {
            r.all();
        } catch (Fault f) {
            faultKind = f.kind;
            faultPlace = f.place;
            return -30 - f.kind;
        }
        told = r.t;
        now = r.n;
        past.clear();
        return told.lines;
    }

    int fault(int what) {
        return what == 0 ? faultKind : what == 1 ? faultPlace : NONE;
    }

    private boolean is(int s) {
        return s >= 0 && s < told.stations;
    }

    int station(int s, int what) {
        if (!is(s) || what < 0 || what > 4) {
            return -2;
        }
        int bits = 0;
        for (int t = 0; t < 7; t++) {
            bits |= told.hours[s][t] > 0 ? 1 << t : 0;
        }
        return new int[] {now.dull[s], told.kind[s], now.asleep.contains(s) ? 1 : 0, bits,
            now.where == s ? 1 : 0}[what];
    }

    int way(int s, int t, int what) {
        if (!is(s) || !is(t) || s == t || what < 0 || what > 1) {
            return -2;
        }
        if (told.hours[s][t] == 0) {
            return NONE;
        }
        return what == 0 ? told.hours[s][t] : told.odds[s][t];
    }

    /** 0: it can; else why not. */
    private int why(Now n, int t) {
        if (!is(t)) {
            return 1;
        }
        if (n.where == NONE || told.hours[n.where][t] == 0) {
            return 2;
        }
        if (n.asleep.contains(t)) {
            return 3;
        }
        return told.takes == null || told.takes.of(asked(n, t)) ? 0 : 4;
    }

    private Asked asked(Now n, int t) {
        Asked a = new Asked();
        a.station = t;
        a.dull = n.dull[t];
        a.kind = told.kind[t];
        a.size = n.size;
        a.from = n.where;
        a.hours = told.hours[n.where][t];
        return a;
    }

    private int size(Now n, int t) {
        long v = told.passes == null ? n.size : told.passes.of(asked(n, t));
        return v < 1 ? 0 : v > 40 ? 40 : (int) v;
    }

    /** How all is behind a passing; null if it can't be. */
    private Now after(Now n, int t) {
        if (why(n, t) != 0) {
            return null;
        }
        Now c = n.copy();
        c.size = size(n, t);
        c.hours += told.hours[n.where][t];
        c.where = c.size == 0 ? NONE : t;
        return c;
    }

    int brings(int t) {
        if (!is(t)) {
            return -2;
        }
        Now c = after(now, t);
        return c == null ? -5 : c.size;
    }

    // ---- deeds.

    private void remember(Now ahead) {
        past.add(ahead);
        if (past.size() > 10) {
            past.remove(0);
        }
    }

    /** 0 if it was done. */
    private static final int PASS = 0;
    private static final int SLEEP = 1;
    private static final int DULL = 2;
    private static final int OFF = 3;

    private int tried(int deed, int s, int n) {
        if (deed == PASS) {
            int why = why(now, s);
            if (why == 0) {
                now = after(now, s);
            }
            return why;
        }
        if (!is(s) || deed == OFF && (n < 1 || n > 40) || deed == DULL && (n < 0 || n > 9)) {
            return 1;
        }
        now = now.copy();
        if (deed == SLEEP) {
            if (!now.asleep.remove(s)) {
                now.asleep.add(s);
            }
        } else if (deed == DULL) {
            now.dull[s] = n;
        } else {
            now.where = s;
            now.size = n;
        }
        return 0;
    }

    int pass(int t) {
        Now ahead = now;
        int why = tried(PASS, t, 0);
        if (why != 0) {
            return -10 - why;
        }
        remember(ahead);
        return now.size;
    }

    int off(int s, int size) {
        Now ahead = now;
        if (tried(OFF, s, size) != 0) {
            return -11;
        }
        remember(ahead);
        return now.hours;
    }

    int sleep(int s) {
        Now ahead = now;
        if (tried(SLEEP, s, 0) != 0) {
            return -11;
        }
        remember(ahead);
        return now.asleep.contains(s) ? 1 : 0;
    }

    int dull(int s, int n) {
        Now ahead = now;
        if (tried(DULL, s, n) != 0) {
            return -11;
        }
        remember(ahead);
        return ahead.dull[s];
    }

    int undo(int n) {
        if (n < 1 || n > past.size()) {
            return -3;
        }
        for (int i = 0; i < n; i++) {
            now = past.remove(past.size() - 1);
        }
        return past.size();
    }

    private int triedDeed(long v) {
        if (v >= 0 && v <= 9) {
            return tried(PASS, (int) v, 0);
        }
        if (v >= 10 && v <= 19) {
            return tried(SLEEP, (int) v - 10, 0);
        }
        if (v >= 100 && v <= 199) {
            return tried(DULL, (int) (v - 100) / 10, (int) (v % 10));
        }
        if (v >= 1000 && v <= 1999) {
            return tried(OFF, (int) (v - 1000) / 100, (int) (v % 100));
        }
        return 1;
    }

    int judge(int tray, int what) {
        if (tray < 0 || tray > 3 || what < 0 || what > 3) {
            return -2;
        }
        if (trays[tray] == null) {
            return -6;
        }
        Now ahead = now;
        int why = 0;
        int i = 0;
        while (i < trays[tray].length && why == 0) {
            why = triedDeed(trays[tray][i]);
            i += why == 0 ? 1 : 0;
        }
        int[] all = {i < trays[tray].length ? i : NONE, why, now.where, now.size};
        now = ahead;
        return all[what];
    }

    int perform(int tray) {
        if (tray < 0 || tray > 3) {
            return -2;
        }
        if (trays[tray] == null) {
            return -6;
        }
        Now ahead = now;
        int done = 0;
        for (long v : trays[tray]) {
            if (triedDeed(v) != 0) {
                break;
            }
            done++;
        }
        if (done > 0) {
            remember(ahead);
        }
        return done;
    }

    int season(int seed, int times) {
        if (times < 1 || times > 40) {
            return -3;
        }
        Now ahead = now;
        int[] x = {seed};
        int done = 0;
        for (int i = 0; i < times; i++) {
            int kind = draw(x) % 6;
            int s = draw(x) % 7;
            int n = kind == 4 ? draw(x) % 10 : kind == 5 ? draw(x) % 9 : 0;
            int why = kind < 3 ? tried(PASS, s, 0) : kind == 3 ? tried(SLEEP, s, 0)
                : kind == 4 ? tried(DULL, s, n) : tried(OFF, s, 1 + n);
            done += why == 0 ? 1 : 0;
        }
        if (done > 0) {
            remember(ahead);
        }
        return done;
    }

    private static int draw(int[] x) {
        x[0] = (int) (1103515245L * x[0] + 12345L);
        return (int) ((x[0] & 0xffffffffL) >> 16);
    }

    // ---- routes.

    static final class Route {
        final Now end;
        final int hours;
        final List<Integer> stations;

        Route(Now end, int hours, List<Integer> stations) {
            this.end = end;
            this.hours = hours;
            this.stations = stations;
        }
    }

    private static int compareLists(List<Integer> a, List<Integer> b) {
        for (int i = 0; i < a.size() && i < b.size(); i++) {
            if (!a.get(i).equals(b.get(i))) {
                return a.get(i) - b.get(i);
            }
        }
        return a.size() - b.size();
    }

    private Route bestRoute(int s, int size, boolean byHours) {
        Comparator<Route> order = Comparator.comparingInt(r -> byHours ? r.hours : 0);
        order = order.thenComparingInt(r -> r.stations.size());
        order = order.thenComparing((a, b) -> compareLists(a.stations, b.stations));
        PriorityQueue<Route> open = new PriorityQueue<>(order);
        Set<Integer> settled = new HashSet<>();
        open.add(new Route(now, 0, List.of()));
        while (!open.isEmpty()) {
            Route r = open.poll();
            if (!settled.add(r.end.where * 100 + r.end.size)) {
                continue;
            }
            if (r.end.where == s && r.end.size >= size) {
                return r;
            }
            for (int t = 0; t < told.stations; t++) {
                Now c = after(r.end, t);
                if (c != null && c.size > 0) {
                    List<Integer> longer = new ArrayList<>(r.stations);
                    longer.add(t);
                    open.add(new Route(c, r.hours + told.hours[r.end.where][t], longer));
                }
            }
        }
        return null;
    }

    private Set<Integer> comes(Now from) {
        Set<Integer> all = new TreeSet<>();
        comes(from, all);
        return all;
    }

    private void comes(Now from, Set<Integer> all) {
        if (all.add(from.where * 100 + from.size)) {
            for (int t = 0; t < told.stations; t++) {
                Now c = after(from, t);
                if (c != null && c.size > 0) {
                    comes(c, all);
                }
            }
        }
    }

    private boolean comesTo(int s, int sleepersToo) {
        Now c = now.copy();
        for (int t = 0; t < 7; t++) {
            if ((sleepersToo >> t & 1) != 0) {
                c.asleep.add(t);
            }
        }
        return comes(c).stream().anyMatch(p -> p / 100 == s);
    }

    private int refused(boolean named, boolean fits) {
        return !named ? -2 : !fits ? -3 : now.where == NONE ? -5 : 0;
    }

    private static boolean isSize(int size) {
        return size >= 1 && size <= 40;
    }

    int soonest(int s, int size) {
        int r = refused(is(s), isSize(size));
        if (r != 0) {
            return r;
        }
        Route best = bestRoute(s, size, true);
        return best == null ? NONE : best.hours;
    }

    int soonBy(int s, int size, int i) {
        return routeBy(s, size, i, true);
    }

    int fewest(int s, int size) {
        int r = refused(is(s), isSize(size));
        if (r != 0) {
            return r;
        }
        Route best = bestRoute(s, size, false);
        return best == null ? NONE : best.stations.size();
    }

    int fewBy(int s, int size, int i) {
        return routeBy(s, size, i, false);
    }

    private int routeBy(int s, int size, int i, boolean byHours) {
        int r = refused(is(s), isSize(size) && i >= 0);
        if (r != 0) {
            return r;
        }
        Route best = bestRoute(s, size, byHours);
        return best == null || i >= best.stations.size() ? NONE : best.stations.get(i);
    }

    int biggest(int s) {
        int r = refused(is(s), true);
        if (r != 0) {
            return r;
        }
        return comes(now).stream().filter(p -> p / 100 == s).mapToInt(p -> p % 100).max().orElse(NONE);
    }

    int reach() {
        int r = refused(true, true);
        return r != 0 ? r : comes(now).stream().mapToInt(p -> 1 << p / 100).reduce(0, (a, b) -> a | b);
    }

    int needed(int s) {
        int r = refused(is(s), true);
        if (r != 0) {
            return r;
        }
        int bits = 0;
        for (int t = 0; t < told.stations; t++) {
            if (t != s && t != now.where && comesTo(s, 0) && !comesTo(s, 1 << t)) {
                bits |= 1 << t;
            }
        }
        return bits;
    }

    int sleepers(int s, int what) {
        int r = refused(is(s) && what >= 0 && what <= 1, true);
        if (r != 0) {
            return r;
        }
        List<Integer> sets = new ArrayList<>();
        for (int bits = 0; bits < 1 << told.stations; bits++) {
            if ((bits >> s & 1) == 0 && (bits >> now.where & 1) == 0) {
                sets.add(bits);
            }
        }
        sets.sort(Comparator.<Integer>comparingInt(Integer::bitCount).thenComparingInt(b -> b));
        for (int bits : sets) {
            if (!comesTo(s, bits)) {
                return what == 0 ? Integer.bitCount(bits) : bits;
            }
        }
        return NONE;
    }

    // ---- spreading.

    private List<int[]> spreading(Now from) {
        List<int[]> all = new ArrayList<>();
        int[] first = new int[7];
        first[from.where] = from.size;
        all.add(first);
        while (true) {
            int[] ahead = all.get(all.size() - 1);
            int[] then = ahead.clone();
            for (int s = 0; s < 7; s++) {
                for (int t = 0; t < 7; t++) {
                    Now n = from.copy();
                    n.where = s;
                    n.size = ahead[s];
                    Now c = ahead[s] > 0 ? after(n, t) : null;
                    then[t] = Math.max(then[t], c == null ? 0 : c.size);
                }
            }
            if (Arrays.equals(ahead, then)) {
                return all;
            }
            all.add(then);
        }
    }

    private static int bits(int[] sizes) {
        int bits = 0;
        for (int s = 0; s < 7; s++) {
            bits |= sizes[s] > 0 ? 1 << s : 0;
        }
        return bits;
    }

    int spread(int s, int n) {
        int r = refused(is(s), n >= 0 && n <= 999);
        if (r != 0) {
            return r;
        }
        List<int[]> all = spreading(now);
        return all.get(Math.min(n, all.size() - 1))[s];
    }

    int rounds() {
        int r = refused(true, true);
        return r != 0 ? r : spreading(now).size() - 1;
    }

    int crowd() {
        int r = refused(true, true);
        if (r != 0) {
            return r;
        }
        List<int[]> all = spreading(now);
        return bits(all.get(all.size() - 1));
    }

    int stopper() {
        int r = refused(true, true);
        if (r != 0) {
            return r;
        }
        int best = NONE;
        int fewest = 99;
        for (int s = told.stations - 1; s >= 0; s--) {
            if (s != now.where && !now.asleep.contains(s)) {
                Now c = now.copy();
                c.asleep.add(s);
                List<int[]> all = spreading(c);
                int n = Integer.bitCount(bits(all.get(all.size() - 1)));
                if (n <= fewest) {
                    fewest = n;
                    best = s;
                }
            }
        }
        return best;
    }

    int meets(int s, int t, int size) {
        if (!is(s) || !is(t)) {
            return -2;
        }
        if (!isSize(size)) {
            return -3;
        }
        List<List<int[]>> both = new ArrayList<>();
        for (int start : new int[] {s, t}) {
            Now c = now.copy();
            c.where = start;
            c.size = size;
            both.add(spreading(c));
        }
        for (int i = 0; i < Math.max(both.get(0).size(), both.get(1).size()); i++) {
            int one = bits(both.get(0).get(Math.min(i, both.get(0).size() - 1)));
            int other = bits(both.get(1).get(Math.min(i, both.get(1).size() - 1)));
            if ((one & other) != 0) {
                return i;
            }
        }
        return NONE;
    }

    // ---- back.

    private void routes(Now from, int n, int s, int size, List<Integer> by, List<List<Integer>> all) {
        if (n == 0) {
            if (from.where == s && from.size == size) {
                all.add(new ArrayList<>(by));
            }
            return;
        }
        for (int t = 0; t < told.stations; t++) {
            Now c = after(from, t);
            if (c != null && c.size > 0) {
                by.add(t);
                routes(c, n - 1, s, size, by, all);
                by.remove(by.size() - 1);
            }
        }
    }

    private List<List<Integer>> backs(int n, int s, int size) {
        List<List<Integer>> all = new ArrayList<>();
        routes(now, n, s, size, new ArrayList<>(), all);
        return all;
    }

    long back(int n, int s, int size) {
        int r = refused(is(s), n >= 1 && n <= 10 && isSize(size));
        return r != 0 ? r : backs(n, s, size).size();
    }

    int backBy(int n, int s, int size, int i) {
        int r = refused(is(s), n >= 1 && n <= 10 && isSize(size));
        if (r != 0) {
            return r;
        }
        if (i < 0) {
            return -3;
        }
        List<List<Integer>> all = backs(n, s, size);
        return all.isEmpty() || i >= n ? NONE : all.get(0).get(i);
    }

    int surely(int n, int s, int size) {
        int r = refused(is(s), n >= 1 && n <= 10 && isSize(size));
        if (r != 0) {
            return r;
        }
        List<List<Integer>> all = backs(n, s, size);
        int bits = 0;
        for (int t = 0; t < 7; t++) {
            int by = t;
            bits |= !all.isEmpty() && all.stream().allMatch(l -> l.contains(by)) ? 1 << t : 0;
        }
        return bits;
    }

    /** Where some route of n passings leads by, and with which sizes: shorter if it can't go on. */
    List<int[]> walk(int n, Random random) {
        List<int[]> all = new ArrayList<>();
        Now c = now;
        for (int i = 0; i < n && c.where != NONE; i++) {
            List<Now> next = new ArrayList<>();
            for (int t = 0; t < told.stations; t++) {
                Now then = after(c, t);
                if (then != null && then.size > 0) {
                    next.add(then);
                }
            }
            if (next.isEmpty()) {
                break;
            }
            c = next.get(random.nextInt(next.size()));
            all.add(new int[] {c.where, c.size});
        }
        return all;
    }

    // ---- told.

    private int refusedTold(int tray, int s, int size) {
        if (tray < 0 || tray > 3 || !is(s)) {
            return -2;
        }
        if (trays[tray] == null) {
            return -6;
        }
        if (trays[tray].length < 1 || trays[tray].length > 10) {
            return -4;
        }
        boolean fits = Arrays.stream(trays[tray]).allMatch(v -> v >= 0 && v < told.stations);
        return refused(true, fits && isSize(size));
    }

    private List<Integer> dullnesses(int tray, int s, int size) {
        List<Integer> all = new ArrayList<>();
        for (int d = 0; d < 10; d++) {
            Now c = now.copy();
            c.dull[s] = d;
            for (int i = 0; i < trays[tray].length && c != null; i++) {
                c = c.where == NONE ? null : after(c, (int) trays[tray][i]);
            }
            if (c != null && c.size == size) {
                all.add(d);
            }
        }
        return all;
    }

    int dulls(int tray, int s, int size) {
        int r = refusedTold(tray, s, size);
        return r != 0 ? r : dullnesses(tray, s, size).stream().mapToInt(d -> 1 << d).sum();
    }

    int attempt(int tray, int s, int size) {
        int r = refusedTold(tray, s, size);
        if (r != 0) {
            return r;
        }
        List<Integer> all = dullnesses(tray, s, size);
        int best = NONE;
        int least = 99;
        for (int from = 0; from < told.stations; from++) {
            if (told.hours[from][s] > 0 && !all.isEmpty()) {
                Map<Integer, Integer> groups = new HashMap<>();
                for (int d : all) {
                    Now c = now.copy();
                    c.where = from;
                    c.size = size;
                    c.dull[s] = d;
                    Now then = after(c, s);
                    groups.merge(then == null ? 0 : then.size, 1, Integer::sum);
                }
                int most = Collections.max(groups.values());
                if (most < least) {
                    least = most;
                    best = from;
                }
            }
        }
        return best;
    }

    // ---- by turns: the whole game is played.

    private boolean forced(Now n, int s, int turns) {
        if (n.where == s) {
            return true;
        }
        for (int t = 0; t <= 7 && turns > 0 && n.where != NONE; t++) {
            if (forcedBy(n, t, s, turns)) {
                return true;
            }
        }
        return false;
    }

    /** t = 7: he doesn't pass it. */
    private boolean forcedBy(Now n, int t, int s, int turns) {
        Now c = t == 7 ? n : after(n, t);
        if (c == null || c.where == NONE) {
            return false;
        }
        if (c.where == s) {
            return true;
        }
        boolean all = forced(c, s, turns - 1);
        for (int child = 0; child < told.stations && all; child++) {
            if (child != c.where && !c.asleep.contains(child)) {
                Now then = c.copy();
                then.asleep.add(child);
                all = forced(then, s, turns - 1);
            }
        }
        return all;
    }

    int forces(int s) {
        int r = refused(is(s), true);
        if (r != 0) {
            return r;
        }
        for (int turns = 0; turns <= 3; turns++) {
            if (forced(now, s, turns)) {
                return turns;
            }
        }
        return NONE;
    }

    int best(int s) {
        int turns = forces(s);
        if (turns < NONE) {
            return turns;
        }
        for (int t = 0; t <= 7 && turns > 0; t++) {
            if (forcedBy(now, t, s, turns)) {
                return t == 7 ? 99 : t;
            }
        }
        return NONE;
    }

    // ---- chances.

    private long lots(Now n, int draws, int s, Map<Integer, Long> known) {
        if (draws == 0 || n.where == NONE) {
            long all = (long) Math.pow(10, draws);
            return n.where == s ? all : 0;
        }
        int key = (draws * 10 + n.where) * 100 + n.size;
        Long ready = known.get(key);
        if (ready != null) {
            return ready;
        }
        List<Integer> owners = new ArrayList<>();
        for (int t = 0; t < told.stations; t++) {
            for (int i = 0; i < told.odds[n.where][t]; i++) {
                owners.add(t);
            }
        }
        long sum = 0;
        for (int lot = 0; lot < 10; lot++) {
            Now c = lot < owners.size() ? after(n, owners.get(lot)) : null;
            sum += lots(c == null ? n : c, draws - 1, s, known);
        }
        known.put(key, sum);
        return sum;
    }

    long chance(int s, int n, int what) {
        int r = refused(is(s) && what >= 0 && what <= 1, n >= 0 && n <= 6);
        if (r != 0) {
            return r;
        }
        long above = lots(now, n, s, new HashMap<>());
        long below = (long) Math.pow(10, n);
        for (long d = 2; d <= 5; d += 3) {
            while (above % d == 0 && below % d == 0) {
                above /= d;
                below /= d;
            }
        }
        return what == 0 ? above : below;
    }

    int likeliest(int n) {
        int r = refused(true, n >= 0 && n <= 6);
        if (r != 0) {
            return r;
        }
        long most = 0;
        int best = NONE;
        for (int s = 0; s < told.stations; s++) {
            long above = lots(now, n, s, new HashMap<>());
            if (above > most) {
                most = above;
                best = s;
            }
        }
        return best;
    }

    // ---- trays, images.

    int numbers(int tray, int sort, int n) {
        if (tray < 0 || tray > 3 || sort < 0 || sort > 3) {
            return -2;
        }
        if (n < 0 || n > 40) {
            return -3;
        }
        trays[tray] = new long[n];
        sorts[tray] = sort;
        return 0;
    }

    long write(int tray, int i, long v) {
        if (tray < 0 || tray > 3) {
            return -2;
        }
        if (trays[tray] == null) {
            return -6;
        }
        if (i < 0 || i >= trays[tray].length) {
            return -7;
        }
        int cut = 64 - (8 << sorts[tray]);
        trays[tray][i] = v << cut >> cut;
        return trays[tray][i];
    }

    int lists(int tray, int s) {
        if (tray < 0 || tray > 3 || !is(s)) {
            return -2;
        }
        if (trays[tray] == null) {
            return -6;
        }
        Route best = now.where == NONE ? null : bestRoute(s, 1, true);
        if (best == null) {
            return -5;
        }
        int n = 0;
        for (int t : best.stations) {
            if (n < trays[tray].length) {
                trays[tray][n++] = t;
            }
        }
        return n;
    }

    int image(int i) {
        if (i < 0 || i > 1) {
            return -2;
        }
        imageTold[i] = told;
        imageNow[i] = now.copy();
        return 0;
    }

    int restore(int i) {
        if (i < 0 || i > 1) {
            return -2;
        }
        if (imageTold[i] == null) {
            return -5;
        }
        told = imageTold[i];
        now = imageNow[i].copy();
        past.clear();
        return 0;
    }

    int count(int what) {
        int ways = 0;
        for (int[] row : told.hours) {
            for (int h : row) {
                ways += h > 0 ? 1 : 0;
            }
        }
        int asleep = now.asleep.stream().mapToInt(s -> 1 << s).sum();
        int[] all = {told.stations, ways, now.where, now.size, asleep, now.hours, past.size(),
            tape.length(), told.lines};
        return what >= 0 && what < all.length ? all[what] : NONE;
    }
}
