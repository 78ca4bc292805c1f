import java.util.Arrays;

/**
 * A yawn that goes from station to station of a net: what it does, where it can come, how it
 * spreads, and what is sure or likely of it. The document beside the project tells each promise.
 */
public final class YawnRoute {
    /** There is none. */
    public static final int NONE = -1;

    private static final int STATIONS = 7;
    private static final int SIZES = 40;
    /** A place is a station with a size there; most questions are about places. */
    private static final int PLACES = STATIONS * SIZES;
    private static final int DULLS = 10;
    private static final int TAPE = 900;
    private static final int TRAYS = 4;
    private static final int TRAY = 40;
    private static final int IMAGES = 2;
    private static final int UNDOS = 10;
    private static final int TOLD = 10;
    private static final int TIMES = 40;
    private static final int ROUNDS = 999;
    private static final int BACK = 10;
    private static final int DRAWS = 6;
    private static final int LOTS = 10;
    private static final int NESTED = 6;
    private static final int KEPT = 1000000;

    /** What a passing that can't be brings; one that loses the yawn brings 0. */
    private static final int CANT = -1;
    private static final int UNKNOWN = -2;

    private static final int NO_SUCH = -2;
    private static final int NO_NUMBER = -3;
    private static final int TOO_MANY = -4;
    private static final int NOT_NOW = -5;
    private static final int MISSING = -6;
    private static final int NOT_THERE = -7;
    private static final int WHY_NOT = -10;
    private static final int FAULTY = -30;

    private static final int WHY_NO_SUCH = 1;
    private static final int WHY_NO_WAY = 2;
    private static final int WHY_SLEEPS = 3;
    private static final int WHY_LAW = 4;

    private static final int FAULT_SIGN = 1;
    private static final int FAULT_PLACE = 2;
    private static final int FAULT_NUMBER = 3;
    private static final int FAULT_MANY = 4;

    /** The tokens' words, in the order of their numbers below; what a law can ask for is ahead. */
    private static final String WORDS =
        "station dull kind size from hours net way at takes passes asleep odds if then else end or and not ";
    private static final String SIGNS = ";:+-*()[]=<>";
    private static final int TEXT_END = 0;
    private static final int NUMBER = 1;
    private static final int STATION = 200;
    private static final int DULL = 201;
    private static final int KIND = 202;
    private static final int SIZE = 203;
    private static final int FROM = 204;
    private static final int HOURS = 205;
    private static final int NET = 206;
    private static final int WAY = 207;
    private static final int AT = 208;
    private static final int TAKES = 209;
    private static final int PASSES = 210;
    private static final int ASLEEP = 211;
    private static final int ODDS = 212;
    private static final int IF = 213;
    private static final int THEN = 214;
    private static final int ELSE = 215;
    private static final int END = 216;
    private static final int OR = 217;
    private static final int AND = 218;
    private static final int NOT = 219;
    private static final int OTHER_WORD = 220;

    private final Tape tape = new Tape();
    private final NetReader reader = new NetReader(tape);
    private final Net net = new Net();
    private final State state = new State();
    private final Trays trays = new Trays();
    private final Deeds deeds = new Deeds(net, state, trays);
    private final Passings passings = new Passings(net, state);
    private final Routes routes = new Routes(net, state, passings);
    private final Spreading spreading = new Spreading(net, state, passings);
    private final Steps steps = new Steps(net, state, passings);
    private final Net[] imageNets = {new Net(), new Net()};
    private final State[] imageStates = {new State(), new State()};
    private final boolean[] imageMade = new boolean[IMAGES];

    public YawnRoute() {
    }

    // ---- the net.

    public int feed(int a, int b, int c, int d, int e) {
        if (tape.fed + 20 > TAPE) {
            return NOT_NOW;
        }
        tape.addFour(a);
        tape.addFour(b);
        tape.addFour(c);
        tape.addFour(d);
        tape.addFour(e);
        return tape.fed;
    }

    public int net(int n) {
        if (n < 0 || n > tape.fed) {
            return NO_NUMBER;
        }
        boolean good = reader.read(n);
        tape.fed = 0;
        if (!good) {
            return FAULTY - tape.fault;
        }
        takeOver(reader.net, reader.start);
        return net.lines;
    }

    public int fault(int what) {
        if (what == 0) {
            return tape.fault;
        }
        return what == 1 ? tape.faultPlace : NONE;
    }

    public int station(int s, int what) {
        if (!net.isStation(s)) {
            return NO_SUCH;
        }
        switch (what) {
            case 0: return state.dullOf(s);
            case 1: return net.kind[s];
            case 2: return state.isAsleep(s) ? 1 : 0;
            case 3: return net.waysFrom(s);
            case 4: return state.where == s ? 1 : 0;
            default: return NO_SUCH;
        }
    }

    public int way(int s, int t, int what) {
        if (!net.isStation(s) || !net.isStation(t) || s == t || what < 0 || what > 1) {
            return NO_SUCH;
        }
        if (net.hoursOf(s, t) == 0) {
            return NONE;
        }
        return what == 0 ? net.hoursOf(s, t) : net.oddsOf(s, t);
    }

    public int brings(int t) {
        if (!net.isStation(t)) {
            return NO_SUCH;
        }
        int size = deeds.sizeAt(t);
        return size == CANT ? NOT_NOW : size;
    }

    // ---- deeds.

    public int pass(int t) {
        deeds.note();
        int why = deeds.tryPass(state, t);
        return answered(why, state.size);
    }

    public int off(int s, int size) {
        deeds.note();
        int why = deeds.tryOff(state, s, size);
        return answered(why, state.hours);
    }

    public int sleep(int s) {
        deeds.note();
        int why = deeds.trySleep(state, s);
        return answered(why, state.isAsleep(s) ? 1 : 0);
    }

    public int dull(int s, int n) {
        deeds.note();
        int ahead = state.dullOf(s);
        int why = deeds.tryDull(state, s, n);
        return answered(why, ahead);
    }

    public int undo(int n) {
        if (n < 1 || n > deeds.kept) {
            return NO_NUMBER;
        }
        deeds.takeBack(n);
        return deeds.kept;
    }

    public int judge(int tray, int what) {
        if (!trays.isTray(tray) || what < 0 || what > 3) {
            return NO_SUCH;
        }
        if (trays.isMissing(tray)) {
            return MISSING;
        }
        int done = deeds.tryOut(tray);
        switch (what) {
            case 0: return done < trays.lengthOf(tray) ? done : NONE;
            case 1: return deeds.why;
            case 2: return deeds.trial.where;
            default: return deeds.trial.size;
        }
    }

    public int perform(int tray) {
        if (!trays.isTray(tray)) {
            return NO_SUCH;
        }
        if (trays.isMissing(tray)) {
            return MISSING;
        }
        deeds.note();
        int done = deeds.tryAll(state, tray);
        if (done > 0) {
            deeds.keep();
        }
        return done;
    }

    public int season(int seed, int times) {
        if (times < 1 || times > TIMES) {
            return NO_NUMBER;
        }
        deeds.note();
        int done = deeds.trySeason(seed, times);
        if (done > 0) {
            deeds.keep();
        }
        return done;
    }

    // ---- routes.

    public int soonest(int s, int size) {
        int refused = refusal(net.isStation(s), isSize(size));
        if (refused != 0) {
            return refused;
        }
        return routes.seek(s, size, true) ? routes.hoursNeeded() : NONE;
    }

    public int soonBy(int s, int size, int i) {
        return routeBy(s, size, i, true);
    }

    public int fewest(int s, int size) {
        int refused = refusal(net.isStation(s), isSize(size));
        if (refused != 0) {
            return refused;
        }
        return routes.seek(s, size, false) ? routes.passingsNeeded() : NONE;
    }

    public int fewBy(int s, int size, int i) {
        return routeBy(s, size, i, false);
    }

    public int biggest(int s) {
        int refused = refusal(net.isStation(s), true);
        if (refused != 0) {
            return refused;
        }
        passings.explore(state.place(), state.asleep);
        return passings.greatestAt(s);
    }

    public int reach() {
        int refused = refusal(true, true);
        if (refused != 0) {
            return refused;
        }
        passings.explore(state.place(), state.asleep);
        return passings.stationsReached();
    }

    public int needed(int s) {
        int refused = refusal(net.isStation(s), true);
        return refused != 0 ? refused : routes.without(s);
    }

    public int sleepers(int s, int what) {
        int refused = refusal(net.isStation(s) && (what == 0 || what == 1), true);
        if (refused != 0) {
            return refused;
        }
        int bits = routes.leastSleepers(s);
        return bits == NONE || what == 1 ? bits : Integer.bitCount(bits);
    }

    // ---- spreading.

    public int spread(int s, int n) {
        int refused = refusal(net.isStation(s), n >= 0 && n <= ROUNDS);
        if (refused != 0) {
            return refused;
        }
        spreading.run(n);
        return spreading.sizeOf(s);
    }

    public int rounds() {
        int refused = refusal(true, true);
        return refused != 0 ? refused : spreading.run(ROUNDS);
    }

    public int crowd() {
        int refused = refusal(true, true);
        if (refused != 0) {
            return refused;
        }
        spreading.run(ROUNDS);
        return spreading.holders();
    }

    public int stopper() {
        int refused = refusal(true, true);
        return refused != 0 ? refused : spreading.bestStopper();
    }

    public int meets(int s, int t, int size) {
        if (!net.isStation(s) || !net.isStation(t)) {
            return NO_SUCH;
        }
        if (!isSize(size)) {
            return NO_NUMBER;
        }
        return s == t ? 0 : spreading.meeting(s, t, size);
    }

    // ---- back.

    public long back(int n, int s, int size) {
        int refused = refusal(net.isStation(s), isBack(n, size));
        return refused != 0 ? refused : steps.countBack(n, placeOf(s, size));
    }

    public int backBy(int n, int s, int size, int i) {
        int refused = refusal(net.isStation(s), isBack(n, size));
        if (refused != 0) {
            return refused;
        }
        // what back() refuses is told ahead of i, that it is nowhere, too
        if (i < 0) {
            return NO_NUMBER;
        }
        return steps.countBack(n, placeOf(s, size)) > 0 ? steps.stationBack(n, i) : NONE;
    }

    public int surely(int n, int s, int size) {
        int refused = refusal(net.isStation(s), isBack(n, size));
        if (refused != 0) {
            return refused;
        }
        return steps.countBack(n, placeOf(s, size)) > 0 ? steps.sureBack(n) : 0;
    }

    // ---- told.

    public int dulls(int tray, int s, int size) {
        int refused = refusalTold(tray, s, size);
        return refused != 0 ? refused : deeds.dullsTold(tray, s, size);
    }

    public int attempt(int tray, int s, int size) {
        int refused = refusalTold(tray, s, size);
        if (refused != 0) {
            return refused;
        }
        int bits = deeds.dullsTold(tray, s, size);
        return bits == 0 ? NONE : deeds.bestToTry(s, size, bits);
    }

    // ---- by turns.

    /**
     * Behind any turn of the professor's that doesn't bring the yawn to the station the child puts
     * that very station to sleep, and nothing wakes it: he forces it at once or never.
     */
    public int forces(int s) {
        int refused = refusal(net.isStation(s), true);
        if (refused != 0) {
            return refused;
        }
        if (state.where == s) {
            return 0;
        }
        return deeds.sizeAt(s) > 0 ? 1 : NONE;
    }

    /** As what is forced is forced by the first turn, he passes it to that station itself. */
    public int best(int s) {
        int turns = forces(s);
        if (turns < NONE) {
            return turns;
        }
        return turns == 1 ? s : NONE;
    }

    // ---- chances.

    public long chance(int s, int n, int what) {
        int refused = refusal(net.isStation(s) && (what == 0 || what == 1), isDraws(n));
        if (refused != 0) {
            return refused;
        }
        steps.drawLots(n);
        int above = steps.shareOf(s, n);
        int below = steps.sharesIn(n);
        int common = commonDivisor(above, below);
        return what == 0 ? above / common : below / common;
    }

    public int likeliest(int n) {
        int refused = refusal(true, isDraws(n));
        if (refused != 0) {
            return refused;
        }
        steps.drawLots(n);
        return steps.greatestShare(n);
    }

    // ---- trays, images.

    public int numbers(int tray, int sort, int n) {
        if (!trays.isTray(tray) || sort < 0 || sort > 3) {
            return NO_SUCH;
        }
        if (n < 0 || n > TRAY) {
            return NO_NUMBER;
        }
        trays.make(tray, sort, n);
        return 0;
    }

    public long write(int tray, int i, long v) {
        if (!trays.isTray(tray)) {
            return NO_SUCH;
        }
        if (trays.isMissing(tray)) {
            return MISSING;
        }
        if (i < 0 || i >= trays.lengthOf(tray)) {
            return NOT_THERE;
        }
        trays.put(tray, i, v);
        return trays.numberAt(tray, i);
    }

    public int lists(int tray, int s) {
        if (!trays.isTray(tray) || !net.isStation(s)) {
            return NO_SUCH;
        }
        if (trays.isMissing(tray)) {
            return MISSING;
        }
        if (state.where == NONE || !routes.seek(s, 1, true)) {
            return NOT_NOW;
        }
        int n = Math.min(routes.passingsNeeded(), trays.lengthOf(tray));
        for (int i = 0; i < n; i++) {
            trays.put(tray, i, routes.stationAt(i));
        }
        return n;
    }

    public int image(int i) {
        if (i < 0 || i >= IMAGES) {
            return NO_SUCH;
        }
        imageNets[i].copy(net);
        imageStates[i].copy(state);
        imageMade[i] = true;
        return 0;
    }

    public int restore(int i) {
        if (i < 0 || i >= IMAGES) {
            return NO_SUCH;
        }
        if (!imageMade[i]) {
            return NOT_NOW;
        }
        takeOver(imageNets[i], imageStates[i]);
        return 0;
    }

    public int count(int what) {
        switch (what) {
            case 0: return net.stations;
            case 1: return net.waysInAll();
            case 2: return state.where;
            case 3: return state.size;
            case 4: return state.asleep;
            case 5: return state.hours;
            case 6: return deeds.kept;
            case 7: return tape.fed;
            case 8: return net.lines;
            default: return NONE;
        }
    }

    // ---- what several of the calls above share.

    private void takeOver(Net otherNet, State otherState) {
        net.copy(otherNet);
        state.copy(otherState);
        deeds.forgetPast();
        passings.forgetAll();
    }

    /** What a deed answers: if it was done, the past keeps what was noted ahead of it. */
    private int answered(int why, int answer) {
        if (why != 0) {
            return WHY_NOT - why;
        }
        deeds.keep();
        return answer;
    }

    /** The refusals that most questions share, in the order in which their promises tell them. */
    private int refusal(boolean named, boolean fits) {
        if (!named) {
            return NO_SUCH;
        }
        if (!fits) {
            return NO_NUMBER;
        }
        return state.where == NONE ? NOT_NOW : 0;
    }

    private int refusalTold(int tray, int s, int size) {
        if (!trays.isTray(tray) || !net.isStation(s)) {
            return NO_SUCH;
        }
        if (trays.isMissing(tray)) {
            return MISSING;
        }
        if (trays.lengthOf(tray) < 1 || trays.lengthOf(tray) > TOLD) {
            return TOO_MANY;
        }
        return refusal(true, isSize(size) && deeds.tellsStations(tray));
    }

    private int routeBy(int s, int size, int i, boolean byHours) {
        int refused = refusal(net.isStation(s), isSize(size) && i >= 0);
        if (refused != 0) {
            return refused;
        }
        return routes.seek(s, size, byHours) ? routes.stationAt(i) : NONE;
    }

    private static boolean isSize(int size) {
        return size >= 1 && size <= SIZES;
    }

    private static boolean isBack(int n, int size) {
        return n >= 1 && n <= BACK && isSize(size);
    }

    private static boolean isDraws(int n) {
        return n >= 0 && n <= DRAWS;
    }

    private static boolean has(int bits, int s) {
        return (bits >>> s & 1) != 0;
    }

    private static int placeOf(int s, int size) {
        return s * SIZES + size - 1;
    }

    private static int stationIn(int place) {
        return place / SIZES;
    }

    private static int sizeIn(int place) {
        return place % SIZES + 1;
    }

    private static boolean isPlace(int place) {
        return place >= 0 && place < PLACES;
    }

    /** At least 1, as it divides what it is asked for. */
    private static int commonDivisor(int a, int b) {
        int greater = a;
        int less = b;
        for (int i = 0; i < 64 && less != 0; i++) {
            int rest = greater % less;
            greater = less;
            less = rest;
        }
        return Math.max(1, greater);
    }

    /** What a call could bring back by undoing. */
    private static final class State {
        int where = NONE;
        int size;
        int hours;
        int asleep;
        private final int[] dull = new int[STATIONS];

        void clear() {
            where = NONE;
            size = 0;
            hours = 0;
            asleep = 0;
            Arrays.fill(dull, 0);
        }

        void copy(State other) {
            where = other.where;
            size = other.size;
            hours = other.hours;
            asleep = other.asleep;
            System.arraycopy(other.dull, 0, dull, 0, STATIONS);
        }

        boolean isAsleep(int s) {
            return s >= 0 && s < STATIONS && has(asleep, s);
        }

        int dullOf(int s) {
            return s >= 0 && s < STATIONS ? dull[s] : 0;
        }

        void setDull(int s, int n) {
            if (s >= 0 && s < STATIONS) {
                dull[s] = n;
            }
        }

        int place() {
            return where == NONE ? NONE : placeOf(where, size);
        }
    }

    /**
     * What is told of a net and no deed changes. A law is kept as the signs of its text with each
     * one behind what it joins: numbers as they are, all else as its token's number below 0.
     */
    private static final class Net {
        /** Each nested level holds back at most five values, and seven levels can stand open. */
        private static final int STACK = 64;

        int stations;
        int lines;
        final int[] kind = new int[STATIONS];
        /** 0: there is no such way. */
        private final int[] hours = new int[STATIONS * STATIONS];
        private final int[] odds = new int[STATIONS * STATIONS];
        /** No law has more signs than the tape has bytes, nor have both together. */
        private final int[] code = new int[TAPE];
        int codes;
        int takesFrom;
        int takesTo;
        int passesFrom;
        int passesTo;
        private final int[] asked = new int[HOURS - STATION + 1];
        private final int[] stack = new int[STACK];

        void clear() {
            stations = 0;
            lines = 0;
            codes = 0;
            takesFrom = 0;
            takesTo = 0;
            passesFrom = 0;
            passesTo = 0;
            Arrays.fill(kind, 0);
            Arrays.fill(hours, 0);
            Arrays.fill(odds, 0);
        }

        void copy(Net other) {
            stations = other.stations;
            lines = other.lines;
            codes = other.codes;
            takesFrom = other.takesFrom;
            takesTo = other.takesTo;
            passesFrom = other.passesFrom;
            passesTo = other.passesTo;
            System.arraycopy(other.kind, 0, kind, 0, kind.length);
            System.arraycopy(other.hours, 0, hours, 0, hours.length);
            System.arraycopy(other.odds, 0, odds, 0, odds.length);
            System.arraycopy(other.code, 0, code, 0, code.length);
        }

        boolean isStation(int s) {
            return s >= 0 && s < stations;
        }

        int hoursOf(int from, int to) {
            return isStation(from) && isStation(to) ? hours[from * STATIONS + to] : 0;
        }

        int oddsOf(int from, int to) {
            return isStation(from) && isStation(to) ? odds[from * STATIONS + to] : 0;
        }

        void setWay(int from, int to, int newHours, int newOdds) {
            if (isStation(from) && isStation(to)) {
                hours[from * STATIONS + to] = newHours;
                odds[from * STATIONS + to] = newOdds;
            }
        }

        int waysFrom(int s) {
            int bits = 0;
            for (int t = 0; t < stations; t++) {
                bits |= hoursOf(s, t) > 0 ? 1 << t : 0;
            }
            return bits;
        }

        int waysInAll() {
            int n = 0;
            for (int s = 0; s < stations; s++) {
                n += Integer.bitCount(waysFrom(s));
            }
            return n;
        }

        void addCode(int sign) {
            if (codes < code.length) {
                code[codes] = sign;
                codes++;
            }
        }

        /**
         * The size that a passing brings to a station that is awake and as dull as told: CANT, 0 if
         * it is lost.
         */
        int carried(int from, int size, int to, int dull) {
            int way = hoursOf(from, to);
            if (way == 0) {
                return CANT;
            }
            asked[0] = to;
            asked[DULL - STATION] = dull;
            asked[KIND - STATION] = kind[to];
            asked[SIZE - STATION] = size;
            asked[FROM - STATION] = from;
            asked[HOURS - STATION] = way;
            if (takesFrom < takesTo && valueOf(takesFrom, takesTo) == 0) {
                return CANT;
            }
            if (passesFrom == passesTo) {
                return size;
            }
            return Math.max(0, Math.min(SIZES, valueOf(passesFrom, passesTo)));
        }

        private int valueOf(int first, int behind) {
            int top = 0;
            for (int i = first; i < behind && i < code.length; i++) {
                int sign = code[i];
                if (isValue(sign)) {
                    top += top < STACK ? 1 : 0;
                    stack[top - 1] = sign >= 0 ? sign : asked[-sign - STATION];
                } else if (sign == -NOT && top >= 1) {
                    stack[top - 1] = 1 - stack[top - 1];
                } else if (sign == -IF && top >= 3) {
                    top -= 2;
                    stack[top - 1] = stack[top - 1] != 0 ? stack[top] : stack[top + 1];
                } else if (top >= 2) {
                    top--;
                    stack[top - 1] = joined(-sign, stack[top - 1], stack[top]);
                }
            }
            return top > 0 ? stack[top - 1] : 0;
        }

        private static boolean isValue(int sign) {
            return sign >= 0 || -sign >= STATION && -sign <= HOURS;
        }

        private static int joined(int sign, int left, int right) {
            long sum;
            switch (sign) {
                case '+': sum = (long) left + right; break;
                case '-': sum = (long) left - right; break;
                case '*': sum = (long) left * right; break;
                case '=': sum = left == right ? 1 : 0; break;
                case '<': sum = left < right ? 1 : 0; break;
                case '>': sum = left > right ? 1 : 0; break;
                case AND: sum = left & right; break;
                default: sum = left | right; break;
            }
            return (int) (sum > KEPT ? KEPT : sum < -KEPT ? -KEPT : sum);
        }
    }

    /** The tape and its tokens, one at a time, up to the first fault. */
    private static final class Tape {
        private final byte[] bytes = new byte[TAPE];
        int fed;
        private int end;
        private int at;
        private int place;
        int token;
        int value;
        int fault;
        int faultPlace = NONE;

        void addFour(int four) {
            for (int shift = 24; shift >= 0 && fed < TAPE; shift -= 8) {
                bytes[fed] = (byte) (four >>> shift);
                fed++;
            }
        }

        void open(int n) {
            end = Math.min(n, TAPE);
            at = 0;
            fault = 0;
            faultPlace = NONE;
            next();
        }

        /** Behind a fault there is nothing but the end, so that whoever reads comes to an end. */
        void fail(int kind) {
            if (fault == 0) {
                fault = kind;
                faultPlace = place;
            }
            token = TEXT_END;
        }

        void next() {
            for (int i = 0; i < TAPE && isBlank(byteAt(at)); i++) {
                at++;
            }
            place = at;
            int c = byteAt(at);
            if (fault != 0 || c == NONE) {
                token = TEXT_END;
            } else if (isDigit(c)) {
                readNumber();
            } else if (isLetter(c)) {
                readWord();
            } else if (SIGNS.indexOf((char) c) >= 0) {
                token = c;
                at++;
            } else {
                fail(FAULT_SIGN);
            }
        }

        void skip(int wanted) {
            if (token == wanted) {
                next();
            } else {
                fail(FAULT_PLACE);
            }
        }

        int takeNumber(int least, int most) {
            int n = value;
            if (token != NUMBER) {
                fail(FAULT_PLACE);
                return least;
            }
            if (n < least || n > most) {
                fail(FAULT_NUMBER);
                return least;
            }
            next();
            return n;
        }

        private void readNumber() {
            value = 0;
            for (int i = 0; i < TAPE && isDigit(byteAt(at)); i++) {
                value = i < 3 ? value * 10 + byteAt(at) - '0' : value;
                at++;
            }
            token = NUMBER;
            if (at - place > 3) {
                fail(FAULT_SIGN);
            }
        }

        private void readWord() {
            for (int i = 0; i < TAPE && isLetter(byteAt(at)); i++) {
                at++;
            }
            token = STATION;
            int like = place;
            boolean same = true;
            for (int i = 0; i < WORDS.length(); i++) {
                char c = WORDS.charAt(i);
                if (c != ' ') {
                    same = same && c == byteAt(like);
                    like++;
                } else if (same && like == at) {
                    return;
                } else {
                    token++;
                    like = place;
                    same = true;
                }
            }
            token = OTHER_WORD;
        }

        private int byteAt(int i) {
            return i >= 0 && i < end && i < bytes.length ? bytes[i] & 255 : NONE;
        }

        private static boolean isBlank(int c) {
            return c == 10 || c == 32;
        }

        private static boolean isDigit(int c) {
            return c >= '0' && c <= '9';
        }

        private static boolean isLetter(int c) {
            return c >= 'a' && c <= 'z';
        }
    }

    /** Reads a text into a net of its own, as the one in use stays where there is a fault. */
    private static final class NetReader {
        private final Tape tape;
        final Net net = new Net();
        final State start = new State();
        private final LawReader laws;

        NetReader(Tape tape) {
            this.tape = tape;
            this.laws = new LawReader(tape, net);
        }

        boolean read(int n) {
            net.clear();
            start.clear();
            tape.open(n);
            tape.skip(NET);
            tape.skip(';');
            net.lines = 1;
            for (int i = 0; i < TAPE && tape.token != TEXT_END; i++) {
                switch (tape.token) {
                    case STATION: readStation(); break;
                    case WAY: readWay(); break;
                    case AT: readAt(); break;
                    case TAKES: readTakes(); break;
                    case PASSES: readPasses(); break;
                    default: tape.fail(FAULT_PLACE); break;
                }
                tape.skip(';');
                net.lines++;
            }
            return tape.fault == 0;
        }

        private void readStation() {
            int s = net.stations;
            if (s >= STATIONS) {
                tape.fail(FAULT_MANY);
                return;
            }
            tape.next();
            net.stations++;
            boolean more = true;
            for (int i = 0; i < TAPE && more; i++) {
                more = readFlag(s);
            }
        }

        private boolean readFlag(int s) {
            int flag = tape.token;
            if (flag != DULL && flag != KIND && flag != ASLEEP || s < 0 || s >= STATIONS) {
                return false;
            }
            tape.next();
            if (flag == DULL) {
                start.setDull(s, tape.takeNumber(0, 9));
            } else if (flag == KIND) {
                net.kind[s] = tape.takeNumber(0, 9);
            } else {
                start.asleep |= 1 << s;
            }
            return true;
        }

        private void readWay() {
            tape.next();
            int from = readTold(NONE);
            int to = readTold(from);
            int hours = 1;
            int odds = 1;
            for (int i = 0; i < TAPE && (tape.token == HOURS || tape.token == ODDS); i++) {
                boolean isHours = tape.token == HOURS;
                tape.next();
                if (isHours) {
                    hours = tape.takeNumber(1, 9);
                } else {
                    odds = tape.takeNumber(0, 10);
                }
            }
            net.setWay(from, to, hours, odds);
        }

        private void readAt() {
            tape.next();
            start.where = readTold(NONE);
            tape.skip(SIZE);
            start.size = tape.takeNumber(1, SIZES);
        }

        private void readTakes() {
            tape.next();
            tape.skip(':');
            net.takesFrom = net.codes;
            laws.readTruth(0);
            net.takesTo = net.codes;
        }

        private void readPasses() {
            tape.next();
            tape.skip(':');
            net.passesFrom = net.codes;
            laws.readSum(0);
            net.passesTo = net.codes;
        }

        /** A station told ahead, other than one. */
        private int readTold(int other) {
            if (tape.token == NUMBER && tape.value == other) {
                tape.fail(FAULT_NUMBER);
            }
            return tape.takeNumber(0, net.stations - 1);
        }
    }

    /** Reads the laws; the depth told is how many of not [ ( if stand open. */
    private static final class LawReader {
        private final Tape tape;
        private final Net net;

        LawReader(Tape tape, Net net) {
            this.tape = tape;
            this.net = net;
        }

        private void readTruth(int depth) {
            readBoth(depth);
            for (int i = 0; i < TAPE && tape.token == OR; i++) {
                tape.next();
                readBoth(depth);
                net.addCode(-OR);
            }
        }

        private void readBoth(int depth) {
            readUnit(depth);
            for (int i = 0; i < TAPE && tape.token == AND; i++) {
                tape.next();
                readUnit(depth);
                net.addCode(-AND);
            }
        }

        private void readUnit(int depth) {
            if (tape.token == NOT) {
                if (opens(depth)) {
                    readUnit(depth + 1);
                    net.addCode(-NOT);
                }
            } else if (tape.token == '[') {
                if (opens(depth)) {
                    readTruth(depth + 1);
                    tape.skip(']');
                }
            } else {
                readComparison(depth);
            }
        }

        private void readComparison(int depth) {
            readSum(depth);
            int sign = tape.token;
            if (sign != '=' && sign != '<' && sign != '>') {
                tape.fail(FAULT_PLACE);
                return;
            }
            tape.next();
            readSum(depth);
            net.addCode(-sign);
        }

        private void readSum(int depth) {
            readTerm(depth);
            for (int i = 0; i < TAPE && (tape.token == '+' || tape.token == '-'); i++) {
                int sign = tape.token;
                tape.next();
                readTerm(depth);
                net.addCode(-sign);
            }
        }

        private void readTerm(int depth) {
            readAtom(depth);
            for (int i = 0; i < TAPE && tape.token == '*'; i++) {
                tape.next();
                readAtom(depth);
                net.addCode(-'*');
            }
        }

        private void readAtom(int depth) {
            int token = tape.token;
            if (token == NUMBER) {
                net.addCode(tape.value);
                tape.next();
            } else if (token >= STATION && token <= HOURS) {
                net.addCode(-token);
                tape.next();
            } else if (token == '(') {
                if (opens(depth)) {
                    readSum(depth + 1);
                    tape.skip(')');
                }
            } else if (token == IF) {
                if (opens(depth)) {
                    readChoice(depth + 1);
                }
            } else {
                tape.fail(FAULT_PLACE);
            }
        }

        private void readChoice(int depth) {
            readTruth(depth);
            tape.skip(THEN);
            readSum(depth);
            tape.skip(ELSE);
            readSum(depth);
            tape.skip(END);
            net.addCode(-IF);
        }

        private boolean opens(int depth) {
            if (depth >= NESTED) {
                tape.fail(FAULT_MANY);
                return false;
            }
            tape.next();
            return true;
        }
    }

    /** Trays of numbers; one that is missing has no sort. */
    private static final class Trays {
        private final long[][] numbers = new long[TRAYS][TRAY];
        private final int[] sort = {NONE, NONE, NONE, NONE};
        private final int[] length = new int[TRAYS];

        boolean isTray(int tray) {
            return tray >= 0 && tray < TRAYS;
        }

        boolean isMissing(int tray) {
            return !isTray(tray) || sort[tray] == NONE;
        }

        int lengthOf(int tray) {
            return isTray(tray) ? length[tray] : 0;
        }

        void make(int tray, int newSort, int n) {
            if (isTray(tray)) {
                sort[tray] = newSort;
                length[tray] = n;
                Arrays.fill(numbers[tray], 0);
            }
        }

        void put(int tray, int i, long v) {
            if (isTray(tray) && i >= 0 && i < TRAY) {
                numbers[tray][i] = cut(sort[tray], v);
            }
        }

        long numberAt(int tray, int i) {
            return isTray(tray) && i >= 0 && i < TRAY ? numbers[tray][i] : 0;
        }

        private static long cut(int sort, long v) {
            switch (sort) {
                case 0: return (byte) v;
                case 1: return (short) v;
                case 2: return (int) v;
                default: return v;
            }
        }
    }

    /**
     * Deeds on a state, each done whole or not at all, and the past of the one in use; what would
     * be by a told route, as the laws are asked there for a dullness that nobody has.
     */
    private static final class Deeds {
        /** One more than can be undone: the one ahead of the deed that is under way. */
        private static final int PAST = UNDOS + 1;

        private final Net net;
        private final State state;
        private final Trays trays;
        final State trial = new State();
        int why;
        int kept;
        private final State[] past = new State[PAST];
        private int head;
        private int drawn;
        private final int[] alike = new int[SIZES + 1];

        Deeds(Net net, State state, Trays trays) {
            this.net = net;
            this.state = state;
            this.trays = trays;
            for (int i = 0; i < PAST; i++) {
                past[i] = new State();
            }
        }

        void note() {
            past[head].copy(state);
        }

        void keep() {
            head = (head + 1) % PAST;
            kept = Math.min(kept + 1, UNDOS);
        }

        void takeBack(int n) {
            head = Math.floorMod(head - n, PAST);
            kept -= n;
            state.copy(past[head]);
        }

        void forgetPast() {
            kept = 0;
        }

        /** The size that passing it on now would bring to a station. */
        int sizeAt(int t) {
            if (state.where == NONE || state.isAsleep(t)) {
                return CANT;
            }
            return net.carried(state.where, state.size, t, state.dullOf(t));
        }

        int tryPass(State on, int t) {
            if (!net.isStation(t)) {
                return WHY_NO_SUCH;
            }
            int way = net.hoursOf(on.where, t);
            if (way == 0) {
                return WHY_NO_WAY;
            }
            if (on.isAsleep(t)) {
                return WHY_SLEEPS;
            }
            int size = net.carried(on.where, on.size, t, on.dullOf(t));
            if (size == CANT) {
                return WHY_LAW;
            }
            on.where = size > 0 ? t : NONE;
            on.size = size;
            on.hours += way;
            return 0;
        }

        int tryOff(State on, int s, int size) {
            if (!net.isStation(s) || !isSize(size)) {
                return WHY_NO_SUCH;
            }
            on.where = s;
            on.size = size;
            return 0;
        }

        int trySleep(State on, int s) {
            if (!net.isStation(s)) {
                return WHY_NO_SUCH;
            }
            on.asleep ^= 1 << s;
            return 0;
        }

        int tryDull(State on, int s, int n) {
            if (!net.isStation(s) || n < 0 || n >= DULLS) {
                return WHY_NO_SUCH;
            }
            on.setDull(s, n);
            return 0;
        }

        /** Does a tray's deeds up to the first that can't be, for whose sake why is kept. */
        int tryAll(State on, int tray) {
            int n = trays.lengthOf(tray);
            int done = 0;
            why = 0;
            for (int i = 0; i < n && why == 0; i++) {
                why = tryDeed(on, trays.numberAt(tray, i));
                done += why == 0 ? 1 : 0;
            }
            return done;
        }

        int tryOut(int tray) {
            trial.copy(state);
            return tryAll(trial, tray);
        }

        private int tryDeed(State on, long v) {
            if (v < 0 || v > 1999) {
                return WHY_NO_SUCH;
            }
            int deed = (int) v;
            if (deed < 10) {
                return tryPass(on, deed);
            }
            if (deed < 20) {
                return trySleep(on, deed - 10);
            }
            if (deed >= 1000) {
                return tryOff(on, (deed - 1000) / 100, deed % 100);
            }
            if (deed >= 100 && deed < 200) {
                return tryDull(on, (deed - 100) / 10, deed % 10);
            }
            return WHY_NO_SUCH;
        }

        int trySeason(int seed, int times) {
            int done = 0;
            drawn = seed;
            for (int i = 0; i < times; i++) {
                done += tryDrawn() == 0 ? 1 : 0;
            }
            return done;
        }

        /** All of a deed's draws are made, whether it can be or not. */
        private int tryDrawn() {
            int deed = draw() % 6;
            int s = draw() % STATIONS;
            if (deed < 3) {
                return tryPass(state, s);
            }
            if (deed == 3) {
                return trySleep(state, s);
            }
            if (deed == 4) {
                return tryDull(state, s, draw() % DULLS);
            }
            return tryOff(state, s, 1 + draw() % 9);
        }

        private int draw() {
            drawn = 1103515245 * drawn + 12345;
            return drawn >>> 16;
        }

        boolean tellsStations(int tray) {
            for (int i = 0; i < trays.lengthOf(tray); i++) {
                long v = trays.numberAt(tray, i);
                if (v < 0 || v >= net.stations) {
                    return false;
                }
            }
            return true;
        }

        int dullsTold(int tray, int s, int size) {
            int bits = 0;
            for (int n = 0; n < DULLS; n++) {
                bits |= sizeTold(tray, s, n) == size ? 1 << n : 0;
            }
            return bits;
        }

        /** The size behind a tray's route if a station were so dull; CANT or 0 if there is none. */
        private int sizeTold(int tray, int s, int n) {
            int where = state.where;
            int size = state.size;
            for (int i = 0; i < trays.lengthOf(tray) && size > 0; i++) {
                int t = (int) trays.numberAt(tray, i);
                int dull = t == s ? n : state.dullOf(t);
                size = state.isAsleep(t) ? CANT : net.carried(where, size, t, dull);
                where = t;
            }
            return size;
        }

        int bestToTry(int s, int size, int bits) {
            int best = NONE;
            int least = DULLS + 1;
            for (int from = 0; from < net.stations; from++) {
                int most = net.hoursOf(from, s) > 0 ? mostAlike(from, s, size, bits) : least;
                if (most < least) {
                    least = most;
                    best = from;
                }
            }
            return best;
        }

        private int mostAlike(int from, int s, int size, int bits) {
            int most = 0;
            Arrays.fill(alike, 0);
            for (int n = 0; n < DULLS; n++) {
                if (has(bits, n)) {
                    int brought = state.isAsleep(s) ? 0 : net.carried(from, size, s, n);
                    int then = Math.max(0, Math.min(SIZES, brought));
                    alike[then]++;
                    most = Math.max(most, alike[then]);
                }
            }
            return most;
        }
    }

    /**
     * The places to which it can come, and what each passing from them brings: that is worked out
     * once and kept, as every question asks for the same ones over and over.
     */
    private static final class Passings {
        private final Net net;
        private final State state;
        private final byte[] brought = new byte[STATIONS * PLACES];
        private final int[] dullThen = new int[STATIONS];
        /** By station, the sizes with which it comes there, as bits. */
        private final long[] sizes = new long[STATIONS];
        final int[] reached = new int[PLACES];
        int found;

        Passings(Net net, State state) {
            this.net = net;
            this.state = state;
            forgetAll();
        }

        /** Behind another net nothing that was worked out holds. */
        void forgetAll() {
            Arrays.fill(brought, (byte) UNKNOWN);
        }

        /** Of all that deeds change the laws ask but for the dullness of the one that takes. */
        private void refresh() {
            for (int s = 0; s < STATIONS; s++) {
                if (dullThen[s] != state.dullOf(s)) {
                    dullThen[s] = state.dullOf(s);
                    Arrays.fill(brought, s * PLACES, (s + 1) * PLACES, (byte) UNKNOWN);
                }
            }
        }

        /** Finds the places to which it comes from one; behind this after() and next() know them. */
        void explore(int start, int asleep) {
            refresh();
            Arrays.fill(sizes, 0);
            found = 0;
            find(start);
            for (int i = 0; i < PLACES && i < found; i++) {
                for (int t = 0; t < net.stations; t++) {
                    int size = has(asleep, t) ? CANT : workOut(reached[i], t);
                    find(size > 0 ? placeOf(t, size) : NONE);
                }
            }
        }

        private int workOut(int place, int t) {
            int i = t * PLACES + place;
            if (i < 0 || i >= brought.length) {
                return CANT;
            }
            if (brought[i] == UNKNOWN) {
                brought[i] = (byte) net.carried(stationIn(place), sizeIn(place), t, dullThen[t]);
            }
            return brought[i];
        }

        private void find(int place) {
            if (!isPlace(place) || found >= PLACES) {
                return;
            }
            int s = stationIn(place);
            long bit = 1L << sizeIn(place);
            if ((sizes[s] & bit) == 0) {
                sizes[s] |= bit;
                reached[found] = place;
                found++;
            }
        }

        /** The size that it has then, 0 if it is lost, CANT; of a place that has been explored. */
        int after(int place, int t, int asleep) {
            if (!isPlace(place) || !net.isStation(t) || has(asleep, t)) {
                return CANT;
            }
            return Math.max(CANT, brought[t * PLACES + place]);
        }

        /** The place to which it comes from one that has been explored, or NONE. */
        int next(int place, int t, int asleep) {
            int size = after(place, t, asleep);
            return size > 0 ? placeOf(t, size) : NONE;
        }

        boolean isReached(int s) {
            return s >= 0 && s < STATIONS && sizes[s] != 0;
        }

        int stationsReached() {
            int bits = 0;
            for (int s = 0; s < STATIONS; s++) {
                bits |= isReached(s) ? 1 << s : 0;
            }
            return bits;
        }

        int greatestAt(int s) {
            for (int size = SIZES; size > 0; size--) {
                if (isReached(s) && (sizes[s] >>> size & 1) != 0) {
                    return size;
                }
            }
            return NONE;
        }
    }

    /** Coming to a station by the least cost, and who can be in the way of it. */
    private static final class Routes {
        /** No best route has as many passings, so that hours count ahead of any of them. */
        private static final int HOUR = 1000;
        private static final int FAR = 1000000000;

        private final Net net;
        private final State state;
        private final Passings passings;
        /** From each place on, to the goal. */
        private final int[] cost = new int[PLACES];
        private boolean byHours;

        Routes(Net net, State state, Passings passings) {
            this.net = net;
            this.state = state;
            this.passings = passings;
        }

        /** Whether it can come there; the costs are told from the goal, to find the first route. */
        boolean seek(int s, int size, boolean hoursCount) {
            byHours = hoursCount;
            passings.explore(state.place(), state.asleep);
            for (int place = 0; place < PLACES; place++) {
                cost[place] = stationIn(place) == s && sizeIn(place) >= size ? 0 : FAR;
            }
            boolean changed = true;
            for (int i = 0; i < PLACES && changed; i++) {
                changed = improve();
            }
            return costOf(state.place()) < FAR;
        }

        int hoursNeeded() {
            return costOf(state.place()) / HOUR;
        }

        int passingsNeeded() {
            return costOf(state.place()) % HOUR;
        }

        int stationAt(int i) {
            int place = state.place();
            int t = i < PLACES ? bestFrom(place) : NONE;
            for (int k = 0; k < i && k < PLACES && t != NONE; k++) {
                place = passings.next(place, t, state.asleep);
                t = bestFrom(place);
            }
            return t;
        }

        /** The places found last are looked at first: most routes go on to later ones. */
        private boolean improve() {
            boolean changed = false;
            for (int i = passings.found - 1; i >= 0 && i < PLACES; i--) {
                int place = passings.reached[i];
                for (int t = 0; t < net.stations; t++) {
                    int over = costOver(place, t);
                    if (over < costOf(place)) {
                        cost[place] = over;
                        changed = true;
                    }
                }
            }
            return changed;
        }

        private int bestFrom(int place) {
            for (int t = 0; t < net.stations; t++) {
                int over = costOver(place, t);
                if (over < FAR && over == costOf(place)) {
                    return t;
                }
            }
            return NONE;
        }

        private int costOver(int place, int t) {
            int then = costOf(passings.next(place, t, state.asleep));
            if (then >= FAR) {
                return FAR;
            }
            int way = byHours ? net.hoursOf(stationIn(place), t) : 0;
            return then + way * HOUR + 1;
        }

        private int costOf(int place) {
            return isPlace(place) ? cost[place] : FAR;
        }

        /** The stations without each of which there is no coming to one, as bits. */
        int without(int s) {
            int bits = 0;
            if (!comesTo(s, 0)) {
                return bits;
            }
            for (int other = 0; other < net.stations; other++) {
                boolean counts = other != s && other != state.where;
                bits |= counts && !comesTo(s, 1 << other) ? 1 << other : 0;
            }
            return bits;
        }

        /** As bits; the sets come in rising order, so the first of as few is the least. */
        int leastSleepers(int s) {
            int best = NONE;
            int fewest = STATIONS + 1;
            for (int bits = 0; bits < 1 << STATIONS; bits++) {
                boolean fewer = Integer.bitCount(bits) < fewest && canSleep(bits, s);
                if (fewer && !comesTo(s, bits)) {
                    best = bits;
                    fewest = Integer.bitCount(bits);
                }
            }
            return best;
        }

        private boolean canSleep(int bits, int s) {
            return bits < 1 << net.stations && !has(bits, s) && !has(bits, state.where);
        }

        private boolean comesTo(int s, int sleepersToo) {
            passings.explore(state.place(), state.asleep | sleepersToo);
            return passings.isReached(s);
        }
    }

    /** The yawn as all pass it on to all. */
    private static final class Spreading {
        private final Net net;
        private final State state;
        private final Passings passings;
        private final int[] sizes = new int[STATIONS];
        private final int[] others = new int[STATIONS];
        private final int[] ahead = new int[STATIONS];

        Spreading(Net net, State state, Passings passings) {
            this.net = net;
            this.state = state;
            this.passings = passings;
        }

        /** Up to n rounds: how many changed some. */
        int run(int n) {
            passings.explore(state.place(), state.asleep);
            return runWith(state.asleep, n);
        }

        /** As run(), where those who sleep with it do and all it can reach has been explored. */
        private int runWith(int asleep, int n) {
            begin(sizes, state.where, state.size);
            int changed = 0;
            for (int i = 0; i < n && changed == i; i++) {
                changed += goesOn(sizes, asleep) ? 1 : 0;
            }
            return changed;
        }

        int sizeOf(int s) {
            return s >= 0 && s < STATIONS ? sizes[s] : 0;
        }

        int holders() {
            int bits = 0;
            for (int s = 0; s < STATIONS; s++) {
                bits |= sizes[s] > 0 ? 1 << s : 0;
            }
            return bits;
        }

        int bestStopper() {
            int best = NONE;
            int fewest = STATIONS + 1;
            passings.explore(state.place(), state.asleep);
            for (int s = 0; s < net.stations; s++) {
                if (s != state.where && !state.isAsleep(s)) {
                    runWith(state.asleep | 1 << s, ROUNDS);
                    int holders = Integer.bitCount(holders());
                    best = holders < fewest ? s : best;
                    fewest = Math.min(fewest, holders);
                }
            }
            return best;
        }

        int meeting(int s, int t, int size) {
            passings.explore(placeOf(s, size), state.asleep);
            passings.explore(placeOf(t, size), state.asleep);
            begin(sizes, s, size);
            begin(others, t, size);
            boolean changed = true;
            for (int round = 1; round <= ROUNDS && changed; round++) {
                boolean one = goesOn(sizes, state.asleep);
                boolean other = goesOn(others, state.asleep);
                changed = one || other;
                if (isMet()) {
                    return round;
                }
            }
            return NONE;
        }

        private boolean isMet() {
            for (int s = 0; s < STATIONS; s++) {
                if (sizes[s] > 0 && others[s] > 0) {
                    return true;
                }
            }
            return false;
        }

        private static void begin(int[] all, int s, int size) {
            Arrays.fill(all, 0);
            if (s >= 0 && s < all.length) {
                all[s] = size;
            }
        }

        private boolean goesOn(int[] all, int asleep) {
            boolean changed = false;
            System.arraycopy(all, 0, ahead, 0, STATIONS);
            for (int s = 0; s < net.stations; s++) {
                for (int t = 0; t < net.stations && ahead[s] > 0; t++) {
                    int size = passings.after(placeOf(s, ahead[s]), t, asleep);
                    if (size > all[t]) {
                        all[t] = size;
                        changed = true;
                    }
                }
            }
            return changed;
        }
    }

    /** Passings counted step by step: routes back to a place, and draws of lots. */
    private static final class Steps {
        private final Net net;
        private final State state;
        private final Passings passings;
        /** By the steps still to go, how many routes lead from a place to the goal. */
        private final int[][] routes = new int[BACK + 1][PLACES];
        /** By the steps still to go, odd or even: where all these come by, as bits. */
        private final int[][] sure = new int[2][PLACES];
        /** By the draws made, odd or even: of all that can be drawn, how much is at a place. */
        private final int[][] share = new int[2][PLACES];

        Steps(Net net, State state, Passings passings) {
            this.net = net;
            this.state = state;
            this.passings = passings;
        }

        int countBack(int n, int goal) {
            passings.explore(state.place(), state.asleep);
            Arrays.fill(routes[0], 0);
            if (isPlace(goal)) {
                routes[0][goal] = 1;
                sure[0][goal] = 0;
            }
            for (int k = 1; k <= n && k <= BACK; k++) {
                for (int i = 0; i < passings.found && i < PLACES; i++) {
                    countFrom(k, passings.reached[i]);
                }
            }
            return routesFrom(n, state.place());
        }

        private void countFrom(int k, int place) {
            int all = 0;
            int bits = (1 << STATIONS) - 1;
            for (int t = 0; t < net.stations; t++) {
                int then = passings.next(place, t, state.asleep);
                int n = routesFrom(k - 1, then);
                if (n > 0) {
                    all += n;
                    bits &= sure[k - 1 & 1][then] | 1 << t;
                }
            }
            routes[k][place] = all;
            sure[k & 1][place] = bits;
        }

        private int routesFrom(int k, int place) {
            return k >= 0 && k <= BACK && isPlace(place) ? routes[k][place] : 0;
        }

        int sureBack(int n) {
            int place = state.place();
            return isPlace(place) ? sure[n & 1][place] : 0;
        }

        int stationBack(int n, int i) {
            int place = state.place();
            int t = i < n ? firstBack(n, place) : NONE;
            for (int k = 0; k < i && k < BACK && t != NONE; k++) {
                place = passings.next(place, t, state.asleep);
                t = firstBack(n - k - 1, place);
            }
            return t;
        }

        private int firstBack(int k, int place) {
            for (int t = 0; t < net.stations; t++) {
                if (routesFrom(k - 1, passings.next(place, t, state.asleep)) > 0) {
                    return t;
                }
            }
            return NONE;
        }

        void drawLots(int n) {
            passings.explore(state.place(), state.asleep);
            Arrays.fill(share[0], 0);
            int place = state.place();
            if (isPlace(place)) {
                share[0][place] = 1;
            }
            for (int k = 0; k < n && k < DRAWS; k++) {
                Arrays.fill(share[k + 1 & 1], 0);
                for (int i = 0; i < passings.found && i < PLACES; i++) {
                    drawFrom(passings.reached[i], share[k & 1], share[k + 1 & 1]);
                }
            }
        }

        private void drawFrom(int place, int[] now, int[] then) {
            if (!isPlace(place) || now[place] == 0) {
                return;
            }
            int left = LOTS;
            for (int t = 0; t < net.stations; t++) {
                int lots = Math.min(left, net.oddsOf(stationIn(place), t));
                int size = lots > 0 ? passings.after(place, t, state.asleep) : 0;
                left -= lots;
                if (size == CANT) {
                    then[place] += now[place] * lots;
                } else if (size > 0) {
                    then[placeOf(t, size)] += now[place] * lots;
                }
            }
            then[place] += now[place] * left;
        }

        int shareOf(int s, int n) {
            int sum = 0;
            for (int size = 1; size <= SIZES; size++) {
                int place = placeOf(s, size);
                sum += isPlace(place) ? share[n & 1][place] : 0;
            }
            return sum;
        }

        int sharesIn(int n) {
            int all = 1;
            for (int i = 0; i < n && i < DRAWS; i++) {
                all *= LOTS;
            }
            return all;
        }

        int greatestShare(int n) {
            int best = NONE;
            int most = 0;
            for (int s = 0; s < net.stations; s++) {
                if (shareOf(s, n) > most) {
                    most = shareOf(s, n);
                    best = s;
                }
            }
            return best;
        }
    }
}
