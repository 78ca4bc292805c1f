/** For each promise of the document what it says, its edges, and what it refuses; by hand. */
public final class PromiseTest {
    private static final int NONE = YawnRoute.NONE;
    private static final int MIN = Integer.MIN_VALUE;
    private static final int MAX = Integer.MAX_VALUE;

    /** Two ways from 0 to 2: over 1 in 3 hours, straight on in 5; a dull station takes more off. */
    private static final String FORK = "net;station;station dull 3 kind 1;station dull 1;"
        + "station asleep;way 0 1 hours 2 odds 3;way 1 2;way 0 2 hours 5 odds 4;way 2 0 odds 10;"
        + "way 1 3;at 0 size 10;takes:size>dull;passes:size-dull+kind;";
    /** One after the other; only over 1 and 3 does it come to 4. */
    private static final String CHAIN = "net;station;station;station;station;station;way 0 1;way 1 2;"
        + "way 1 3;way 2 3;way 3 4;at 0 size 5;";
    private static final String NOWHERE = "net;station;station;way 0 1;";
    private static final String ALONE = "net;station;at 0 size 7;";

    private static final Check check = new Check("PromiseTest");
    private static int promise;

    public static void main(String[] args) {
        newObject();
        feed();
        net();
        fault();
        station();
        way();
        brings();
        pass();
        off();
        sleep();
        dull();
        undo();
        judge();
        perform();
        season();
        soonest();
        soonBy();
        fewest();
        fewBy();
        biggest();
        reach();
        needed();
        sleepers();
        spread();
        rounds();
        crowd();
        stopper();
        meets();
        back();
        backBy();
        surely();
        dulls();
        attempt();
        forces();
        best();
        chance();
        likeliest();
        numbers();
        write();
        lists();
        image();
        restore();
        count();
        check.holds("all 43 promises are tested", promise == 43);
        check.end();
    }

    private static void due(String call, long got, long want) {
        check.due("promise " + promise + ", " + call, got, want);
    }

    /** One sign a station, so that a route is a text. */
    private static String soon(YawnRoute x, int s, int size) {
        StringBuilder b = new StringBuilder();
        for (int i = 0; x.soonBy(s, size, i) >= 0; i++) {
            b.append(x.soonBy(s, size, i));
        }
        return b.toString();
    }

    private static String few(YawnRoute x, int s, int size) {
        StringBuilder b = new StringBuilder();
        for (int i = 0; x.fewBy(s, size, i) >= 0; i++) {
            b.append(x.fewBy(s, size, i));
        }
        return b.toString();
    }

    private static void route(String what, String got, String want) {
        check.holds("promise " + promise + ", " + what + " is " + want + ", not " + got, got.equals(want));
    }

    private static void newObject() {
        promise++;
        YawnRoute x = new YawnRoute();
        for (int what = 0; what <= 8; what++) {
            due("count(" + what + ")", x.count(what), what == 2 ? NONE : 0);
        }
        due("station", x.station(0, 0), -2);
        due("reach", x.reach(), -5);
        due("NONE", NONE, -1);
        due("image of it", x.image(0), 0);
        due("which comes back", x.restore(0), 0);
        due("a season finds none", x.season(5, 40), 0);
    }

    private static void feed() {
        promise++;
        YawnRoute x = new YawnRoute();
        // "net;station dull 2; " with the highest byte of each first
        due("feed", x.feed(0x6e65743b, 0x73746174, 0x696f6e20, 0x64756c6c, 0x20323b20), 20);
        due("net", x.net(19), 2);
        due("the dullness", x.station(0, 0), 2);
        for (int i = 1; i <= 45; i++) {
            due("feed " + i, x.feed(i, MIN, MAX, -1, 0), 20 * i);
        }
        due("more than 900", x.feed(0, 0, 0, 0, 0), -5);
        due("the tape stays", x.count(7), 900);
        due("its bytes are none of a text", x.net(900), -31);
        due("it is empty", x.count(7), 0);
        due("feed", x.feed(0, 0, 0, 0, 0), 20);
        due("signs are bytes from 0 to 255", x.net(20), -31);
        StringBuilder full = new StringBuilder("net;");
        for (int i = 0; i < 64; i++) {
            full.append("takes:1=1;   \n");
        }
        due("900 bytes are read", Check.read(x, full.toString()), 65);
    }

    private static void net() {
        promise++;
        YawnRoute x = new YawnRoute();
        due("the lines", Check.read(x, FORK), 13);
        due("net alone", Check.read(x, "net;"), 1);
        due("no stations then", x.count(0), 0);
        due("blanks", Check.read(x, " \n net \n ; station ; "), 2);
        due("without blanks", Check.read(x, "net;station dull3kind4asleep;station;way0 1hours7odds2;at1size9;"), 5);
        due("dull3", x.station(0, 0), 3);
        due("kind4", x.station(0, 1), 4);
        due("asleep", x.station(0, 2), 1);
        due("hours7", x.way(0, 1, 0), 7);
        due("odds2", x.way(0, 1, 1), 2);
        due("size9", x.count(3), 9);
        due("later flags count", Check.read(x, "net;station dull 3 kind 4 dull 5 kind 6;"), 2);
        due("dull", x.station(0, 0), 5);
        due("kind", x.station(0, 1), 6);
        due("later lines strike", Check.read(x, "net;station;station;way 0 1 hours 9 odds 9;way 0 1;"
            + "at 0 size 3;at 1 size 4;takes:1=2;takes:1=1;passes:1;passes:2;way 1 0;"), 12);
        due("the way's hours are as at first", x.way(0, 1, 0), 1);
        due("its odds", x.way(0, 1, 1), 1);
        due("ways", x.count(1), 2);
        due("it is at 1", x.count(2), 1);
        due("its size", x.count(3), 4);
        due("the later laws", x.brings(0), 2);
        due("later hours and odds of a line", Check.read(x,
            "net;station;station;way 0 1 hours 2 odds 3 hours 4 odds 0;"), 4);
        due("hours", x.way(0, 1, 0), 4);
        due("odds", x.way(0, 1, 1), 0);
        due("seven stations", Check.read(x, "net;station;station;station;station;station;station;station;"), 8);
        netAnew();
        laws();
    }

    private static void netAnew() {
        YawnRoute x = Check.of(FORK);
        x.pass(1);
        x.sleep(0);
        due("hours ahead", x.count(5), 2);
        due("undoable ahead", x.count(6), 2);
        Check.feed(x, FORK);
        due("below 0", x.net(-1), -3);
        due("above what there is", x.net(FORK.length() / 20 * 20 + 21), -3);
        due("the lowest", x.net(MIN), -3);
        due("the highest", x.net(MAX), -3);
        due("the tape stays", x.count(7), (FORK.length() + 19) / 20 * 20);
        due("all else, too", x.count(6), 2);
        due("a fault: nothing there", x.net(0), -32);
        due("the tape is empty", x.count(7), 0);
        due("a fault: all else stays, hours", x.count(5), 2);
        due("stations", x.count(0), 4);
        due("undoable", x.count(6), 2);
        due("a late fault", Check.read(x, "net;station;at 0 size 1;passes:1;takes:1;"), -32);
        due("the old law", x.brings(2), 7);
        due("where it is", x.count(2), 1);
        due("lines", x.count(8), 13);
        due("anew", Check.read(x, ALONE + "station;"), 4);
        due("hours", x.count(5), 0);
        due("undoable", x.count(6), 0);
        due("undo", x.undo(1), -3);
        due("sleepers", x.count(4), 0);
        due("only the first n", Check.read(x, "net;station;"), 2);
        Check.feed(x, "net;station;station;station;");
        due("n bytes", x.net(12), 2);
        due("stations", x.count(0), 1);
        due("the rest is gone", x.count(7), 0);
    }

    private static int told(String sum) {
        return Check.of("net;station dull 8 kind 6;station dull 4 kind 3;way 0 1 hours 7;way 1 0 hours 2;"
            + "at 0 size 10;passes:" + sum + ";").brings(1);
    }

    private static int taken(String truth) {
        return Check.of("net;station dull 8 kind 6;station dull 4 kind 3;way 0 1 hours 7;way 1 0 hours 2;"
            + "at 0 size 10;takes:" + truth + ";").brings(1) == 10 ? 1 : 0;
    }

    private static void laws() {
        due("station", told("station"), 1);
        due("dull", told("dull"), 4);
        due("kind", told("kind"), 3);
        due("size", told("size"), 10);
        due("from", told("from"), 0);
        due("from in a sum", told("from+5"), 5);
        due("hours", told("hours"), 7);
        due("* ahead of +", told("2+3*4"), 14);
        due("* ahead of -", told("20-2*3"), 14);
        due("from the left", told("20-5-3"), 12);
        due("( )", told("(2+3)*4"), 20);
        due("40 at most", told("41"), 40);
        due("below 1", told("3-4"), 0);
        due("0", told("0"), 0);
        due("999 and 007", told("999-007*142"), 5);
        due("kept to a million, up", told("999*999*999-999*999-999-998"), 2);
        due("each is kept", told("999*999*2-999*999-999-985"), 15);
        due("down by -", told("0-999*999-999*999+999*999+999+999+5"), 4);
        due("down by *", told("(0-999)*999*9+999*999+999+999+4"), 3);
        due("up by +", told("999*999+999*999-999*999-999-999+13"), 14);
        due("if holds", told("if 1=1 then 5 else 6 end"), 5);
        due("if doesn't", told("if 1=2 then 5 else 6 end+1"), 7);
        due("if in if", told("if if 1<2 then 3 else 4 end=3 then if 1>2 then 7 else 8 end else 9 end"), 8);
        due("=", taken("size=10"), 1);
        due("not =", taken("size=9"), 0);
        due("<", taken("kind<dull"), 1);
        due("not <, if like", taken("4<dull"), 0);
        due(">", taken("hours>6"), 1);
        due("not >, if like", taken("hours>7"), 0);
        due("and ahead of or", taken("1=1 or 1=1 and 1=2"), 1);
        due("[ ]", taken("[1=1 or 1=1] and 1=2"), 0);
        due("not binds the nearest", taken("not 1=1 or 1=1"), 1);
        due("not [ ]", taken("not [1=1 or 1=1]"), 0);
        due("not not", taken("not not 1=1"), 1);
        due("both of and", taken("1=1 and 2=3"), 0);
        due("either of or", taken("1=2 or 3=3"), 1);
        due("neither", taken("1=2 or 3=4"), 0);
        due("or, or, or", taken("1=2 or 2=3 or 3=4 or 4=4"), 1);
        due("none of many", taken("1=2 or 2=3 or 3=4 or 4=5"), 0);
        due("and, and, and", taken("1=1 and 2=2 and 3=3 and 4=5"), 0);
        due("all of many", taken("1=1 and 2=2 and 3=3 and 4=4"), 1);
        due("+ - + -", told("1+2-3+4-5+6"), 5);
        due("* * *", told("1*2*3*4"), 24);
        due("six deep", taken("not [not [not [1=1]]]"), 0);
        due("six beside six", taken("not not not not not not 1=1 and [[[[[[1=1]]]]]] or ((((((1))))))=2"), 1);
    }

    private static void fault(String text, int kind, int place) {
        YawnRoute x = new YawnRoute();
        due("net of " + text, Check.read(x, text), -30 - kind);
        due("its fault", x.fault(0), kind);
        due("its place in " + text, x.fault(1), place);
        due("other", x.fault(2), NONE);
    }

    private static void fault() {
        promise++;
        YawnRoute x = new YawnRoute();
        due("none yet", x.fault(0), 0);
        due("no place yet", x.fault(1), NONE);
        due("others", x.fault(-1), NONE);
        due("others", x.fault(2), NONE);
        due("others", x.fault(MIN), NONE);
        fault("", 2, 0);
        fault("  ", 2, 2);
        fault("nett;", 2, 0);
        fault("ne;", 2, 0);
        fault("net station;", 2, 4);
        fault("net;net;", 2, 4);
        fault("net;;", 2, 4);
        fault("net;station ", 2, 12);
        fault("net;station dull  ", 2, 18);
        fault("net;station dull 1000;", 1, 17);
        fault("net;station dull 999;", 3, 17);
        fault("net;1000", 1, 4);
        fault("net;station\t;", 1, 11);
        fault("net;Station;", 1, 4);
        fault("net;\u00e9", 1, 4);
        fault("net;station/", 1, 11);
        fault("net;station hours 1;", 2, 12);
        fault("net;station dull 1a;", 2, 18);
        fault("net;station kind 10;", 3, 17);
        fault("net;station asleep asleep dull;", 2, 30);
        fault("net;station;way 1 0;", 3, 16);
        fault("net;station;way 0 1;station;", 3, 18);
        fault("net;station;station;way 1 1;", 3, 26);
        fault("net;station;station;way 0 1 dull 1;", 2, 28);
        fault("net;station;station;way 0 1 hours 10;", 3, 34);
        fault("net;station;station;way 0 1 hours 0;", 3, 34);
        fault("net;station;station;way 0 1 odds 11;", 3, 33);
        fault("net;at 0 size 1;", 3, 7);
        fault("net;station;at 0 0;", 2, 17);
        fault("net;station;at 0 size 41;", 3, 22);
        fault("net;station;at 0 size 0;", 3, 22);
        fault("net;takes 1=1;", 2, 10);
        fault("net;takes:size;", 2, 14);
        fault("net;takes:1=1 and;", 2, 17);
        fault("net;takes:1=1=1;", 2, 13);
        fault("net;takes:(1=1);", 2, 12);
        fault("net;takes:[1];", 2, 12);
        fault("net;takes:[1=1;", 2, 14);
        fault("net;passes:1 1;", 2, 13);
        fault("net;passes:odds;", 2, 11);
        fault("net;passes:-1;", 2, 11);
        fault("net;passes:not 1;", 2, 11);
        fault("net;passes:(1;", 2, 13);
        fault("net;passes:if 1 then 1 else 1 end;", 2, 16);
        fault("net;passes:if 1=1 else 1 end;", 2, 18);
        fault("net;passes:if 1=1 then 1 end;", 2, 25);
        fault("net;passes:if 1=1 then 1 else 1;", 2, 31);
        fault("net;station;station;station;station;station;station;station;station", 4, 60);
        fault("net;takes:[[[[[[[1=1]]]]]]];", 4, 16);
        fault("net;takes:not[not(if[1=1]then(1)else((if 1=1 then 1 else 1 end))end)=1];", 4, 37);
        fault("net;passes:((((((not", 2, 17);
        fault("net;passes:((((((if", 4, 17);
        fault("net;takes:not not not not not not not", 4, 34);
        fault("net;takes:1=1;station dull 10;?", 3, 27);
        due("a fault", Check.read(x, "net"), -32);
        x.feed(1, 2, 3, 4, 5);
        due("a net that is not read", x.net(21), -3);
        due("the fault of the latest that was", x.fault(0), 2);
        due("its place", x.fault(1), 3);
        x.net(0);
        due("good", Check.read(x, ALONE), 3);
        due("no fault", x.fault(0), 0);
        due("no place", x.fault(1), NONE);
    }

    private static void station() {
        promise++;
        YawnRoute x = Check.of(FORK);
        due("dull", x.station(1, 0), 3);
        due("kind", x.station(1, 1), 1);
        due("asleep", x.station(3, 2), 1);
        due("awake", x.station(1, 2), 0);
        due("ways", x.station(0, 3), 6);
        due("ways", x.station(1, 3), 12);
        due("no ways", x.station(3, 3), 0);
        due("it is there", x.station(0, 4), 1);
        due("it isn't", x.station(1, 4), 0);
        due("none such", x.station(4, 0), -2);
        due("none such", x.station(-1, 0), -2);
        due("none such", x.station(MAX, 0), -2);
        due("no such what", x.station(0, 5), -2);
        due("no such what", x.station(0, -1), -2);
        due("at none", Check.of(NOWHERE).station(0, 4), 0);
        x.dull(1, 9);
        due("dull now", x.station(1, 0), 9);
    }

    private static void way() {
        promise++;
        YawnRoute x = Check.of(FORK);
        due("hours", x.way(0, 2, 0), 5);
        due("odds", x.way(0, 2, 1), 4);
        due("hours if not told", x.way(1, 2, 0), 1);
        due("odds if not told", x.way(1, 2, 1), 1);
        due("not the other way", x.way(1, 0, 0), NONE);
        due("not to itself", x.way(1, 1, 0), -2);
        due("from none", x.way(4, 0, 0), -2);
        due("to none", x.way(0, 4, 0), -2);
        due("from below", x.way(-1, 0, 0), -2);
        due("to below", x.way(0, -1, 0), -2);
        due("no such what", x.way(0, 1, 2), -2);
        due("no such what, no way", x.way(1, 0, -1), -2);
    }

    private static void brings() {
        promise++;
        YawnRoute x = Check.of(FORK);
        due("size-dull+kind", x.brings(1), 8);
        due("size-dull", x.brings(2), 9);
        due("no way", x.brings(3), -5);
        due("to itself", x.brings(0), -5);
        due("none such", x.brings(4), -2);
        due("none such", x.brings(-1), -2);
        due("nothing is done", x.count(2), 0);
        x.sleep(1);
        due("asleep", x.brings(1), -5);
        x.sleep(1);
        x.off(0, 3);
        due("the law takes", x.brings(1), -5);
        due("nowhere", Check.of(NOWHERE).brings(1), -5);
        due("lost", Check.of("net;station;station;way 0 1;at 0 size 2;passes:size-2;").brings(1), 0);
        due("without laws", Check.of("net;station;station;way 0 1;at 0 size 2;").brings(1), 2);
        YawnRoute y = Check.of(FORK);
        y.dull(1, 5);
        due("as dull as it is now", y.brings(1), 6);
    }

    private static void pass() {
        promise++;
        YawnRoute x = Check.of(FORK);
        due("pass", x.pass(1), 8);
        due("it is there", x.count(2), 1);
        due("its size", x.count(3), 8);
        due("hours", x.count(5), 2);
        due("undoable", x.count(6), 1);
        due("none such", x.pass(4), -11);
        due("none such", x.pass(-1), -11);
        due("none such", x.pass(MIN), -11);
        due("no way", x.pass(0), -12);
        due("to itself", x.pass(1), -12);
        due("asleep", x.pass(3), -13);
        due("refused ones change nothing", x.count(6), 1);
        x.dull(2, 9);
        due("the law takes", x.pass(2), -14);
        x.sleep(2);
        due("asleep ahead of the law", x.pass(2), -13);
        x.sleep(2);
        x.dull(2, 7);
        due("just so", x.pass(2), 1);
        due("hours go on", x.count(5), 3);
        due("back to 0", x.pass(0), 1);
        due("nowhere", Check.of(NOWHERE).pass(1), -12);
        YawnRoute y = Check.of("net;station;station;way 0 1 hours 4;at 0 size 2;passes:size-9;");
        due("lost", y.pass(1), 0);
        due("nowhere", y.count(2), NONE);
        due("no size", y.count(3), 0);
        due("its hours go by", y.count(5), 4);
        due("then no more", y.pass(1), -12);
    }

    private static void off() {
        promise++;
        YawnRoute x = Check.of(FORK);
        x.pass(1);
        due("the hours so far", x.off(3, 40), 2);
        due("there, asleep or not", x.count(2), 3);
        due("its size", x.count(3), 40);
        due("hours stay", x.count(5), 2);
        due("where it is already", x.off(3, 40), 2);
        due("undoable", x.count(6), 3);
        due("size 0", x.off(0, 0), -11);
        due("size 41", x.off(0, 41), -11);
        due("no station", x.off(4, 1), -11);
        due("below", x.off(-1, 1), -11);
        due("far below", x.off(MIN, MIN), -11);
        due("refused ones change nothing", x.count(3), 40);
        due("undoable", x.count(6), 3);
        YawnRoute y = Check.of(NOWHERE);
        due("from nowhere", y.off(1, 1), 0);
        due("there", y.count(2), 1);
    }

    private static void sleep() {
        promise++;
        YawnRoute x = Check.of(FORK);
        due("falls asleep", x.sleep(1), 1);
        due("as bits", x.count(4), 10);
        due("wakes", x.sleep(1), 0);
        due("another wakes", x.sleep(3), 0);
        due("none", x.count(4), 0);
        due("where it is", x.sleep(0), 1);
        due("it stays there", x.count(2), 0);
        due("and passes on", x.pass(1), 8);
        due("none such", x.sleep(4), -11);
        due("below", x.sleep(-1), -11);
        due("above", x.sleep(MAX), -11);
        due("undoable", x.count(6), 5);
    }

    private static void dull() {
        promise++;
        YawnRoute x = Check.of(FORK);
        due("as it was", x.dull(1, 9), 3);
        due("as it was then", x.dull(1, 0), 9);
        due("like ones, too", x.dull(1, 0), 0);
        due("undoable", x.count(6), 3);
        due("now", x.station(1, 0), 0);
        due("10", x.dull(1, 10), -11);
        due("below 0", x.dull(1, -1), -11);
        due("none such", x.dull(4, 1), -11);
        due("below", x.dull(-1, 1), -11);
        due("still", x.station(1, 0), 0);
        due("routes are told by it", x.biggest(1), 11);
        x.dull(1, 9);
        due("and anew", x.biggest(1), 2);
        x.undo(1);
        due("and as it was", x.biggest(1), 11);
    }

    private static void undo() {
        promise++;
        YawnRoute x = Check.of(FORK);
        due("nothing", x.undo(1), -3);
        x.pass(1);
        x.sleep(0);
        x.dull(2, 7);
        x.off(2, 33);
        due("below 1", x.undo(0), -3);
        due("more than can be", x.undo(5), -3);
        due("far more", x.undo(MAX), -3);
        due("below", x.undo(MIN), -3);
        due("one", x.undo(1), 3);
        due("where it was", x.count(2), 1);
        due("its size", x.count(3), 8);
        due("dull still", x.station(2, 0), 7);
        due("two", x.undo(2), 1);
        due("dull", x.station(2, 0), 1);
        due("asleep", x.count(4), 8);
        due("hours still", x.count(5), 2);
        due("the last", x.undo(1), 0);
        due("hours", x.count(5), 0);
        due("it is at 0", x.count(2), 0);
        due("its size", x.count(3), 10);
        for (int i = 1; i <= 12; i++) {
            x.off(0, i);
        }
        due("10 at most", x.count(6), 10);
        due("11", x.undo(11), -3);
        due("all ten", x.undo(10), 0);
        due("the eldest are forgotten", x.count(3), 2);
        due("no more", x.undo(1), -3);
        x.off(0, 30);
        x.off(0, 31);
        x.undo(1);
        due("others behind", x.off(0, 32), 0);
        due("two are left", x.undo(2), 0);
        due("as it was", x.count(3), 2);
        whole();
    }

    private static void whole() {
        YawnRoute x = Check.of(FORK);
        Check.tray(x, 0, 1, 10, 125, 1240, 9);
        due("perform", x.perform(0), 4);
        due("undone as a whole", x.undo(1), 0);
        due("where it is", x.count(2), 0);
        due("asleep", x.count(4), 8);
        due("dull", x.station(2, 0), 1);
        Check.tray(x, 0, 9);
        due("nothing done", x.perform(0), 0);
        due("nothing to undo", x.count(6), 0);
        due("a season", x.season(1, 40) > 0 ? 1 : 0, 1);
        due("undone as a whole", x.undo(1), 0);
        due("as at first", x.count(3) * 100 + x.count(4) * 10 + x.count(5), 1080);
    }

    private static void judge() {
        promise++;
        YawnRoute x = Check.of(FORK);
        due("missing", x.judge(0, 0), -6);
        due("no such what ahead", x.judge(0, 4), -2);
        due("no such what", x.judge(0, -1), -2);
        due("no such tray", x.judge(4, 0), -2);
        due("no such tray", x.judge(-1, 0), -2);
        Check.tray(x, 1);
        judged(x, 1, NONE, 0, 0, 10);
        Check.tray(x, 0, 1, 2, 0);
        judged(x, 0, NONE, 0, 0, 7);
        Check.tray(x, 0, 1, 2, 2, 0);
        judged(x, 0, 2, 2, 2, 7);
        Check.tray(x, 0, 1, 3);
        judged(x, 0, 1, 3, 1, 8);
        Check.tray(x, 0, 13, 1, 3);
        judged(x, 0, NONE, 0, 3, 8);
        Check.tray(x, 0, 1009, 119, 1);
        judged(x, 0, 2, 4, 0, 9);
        Check.tray(x, 0, 110, 1);
        judged(x, 0, NONE, 0, 1, 11);
        Check.tray(x, 0, 1340, 1301);
        judged(x, 0, NONE, 0, 3, 1);
        for (long other : new long[] {4, 9, 14, 19, 20, 99, 140, 199, 200, 999, 1000, 1041, 1099, 1401,
            1999, 2000, -1, Long.MIN_VALUE, Long.MAX_VALUE, 1L << 32}) {
            Check.tray(x, 0, 1, other);
            judged(x, 0, 1, 1, 1, 8);
        }
        due("nothing was done", x.count(2) + x.count(4) + x.count(6) + x.station(1, 0), 11);
        YawnRoute y = Check.of("net;station;station;way 0 1;at 0 size 2;passes:0;");
        Check.tray(y, 3, 1, 1);
        judged(y, 3, 1, 2, NONE, 0);
        due("a tray without stations", judgeEmpty(), 1);
    }

    private static int judgeEmpty() {
        YawnRoute x = new YawnRoute();
        Check.tray(x, 0, 0);
        return x.judge(0, 1);
    }

    private static void judged(YawnRoute x, int tray, int place, int why, int where, int size) {
        due("the first that can't be", x.judge(tray, 0), place);
        due("why", x.judge(tray, 1), why);
        due("where it is then", x.judge(tray, 2), where);
        due("its size then", x.judge(tray, 3), size);
    }

    private static void perform() {
        promise++;
        YawnRoute x = Check.of(FORK);
        due("missing", x.perform(2), -6);
        due("no such tray", x.perform(4), -2);
        due("no such tray", x.perform(-1), -2);
        Check.tray(x, 2, 1, 2, 9, 0);
        due("till one can't be", x.perform(2), 2);
        due("it is at 2", x.count(2), 2);
        due("hours", x.count(5), 3);
        due("one call", x.count(6), 1);
        Check.tray(x, 2, 10, 13, 109, 1005);
        due("all", x.perform(2), 4);
        due("asleep", x.count(4), 1);
        due("dull", x.station(0, 0), 9);
        due("let off there", x.count(3), 5);
        Check.tray(x, 2);
        due("none", x.perform(2), 0);
        Check.tray(x, 2, 20);
        due("none can be", x.perform(2), 0);
        due("two calls still", x.count(6), 2);
    }

    private static void season() {
        promise++;
        YawnRoute x = Check.of(FORK);
        due("0 times", x.season(1, 0), -3);
        due("41 times", x.season(1, 41), -3);
        due("below", x.season(1, MIN), -3);
        // a draw makes 1103515245 x + 12345 of x and is its upper half: the seeds are found by that
        due("nothing done", x.count(6), 0);
        int[] seen = new int[6];
        for (int seed = -40; seed < 40; seed++) {
            seen[oneDeed(seed)]++;
        }
        for (int deed = 0; deed < 6; deed++) {
            check.holds("promise 15, deed " + deed + " was seen", seen[deed] > 0);
        }
        YawnRoute y = Check.of(FORK);
        int could = y.season(7, 40);
        YawnRoute z = Check.of(FORK);
        int[] draws = draws(7, 200);
        int at = 0;
        int done = 0;
        for (int i = 0; i < 40; i++) {
            int kind = draws[at] % 6;
            int more = kind == 4 ? draws[at + 2] % 10 : kind == 5 ? 1 + draws[at + 2] % 9 : 0;
            done += doneSo(z, kind, draws[at + 1] % 7, more) >= 0 ? 1 : 0;
            at += kind > 3 ? 3 : 2;
        }
        due("forty", could, done);
        for (int what = 0; what < 6; what++) {
            due("all is as by deeds, " + what, y.count(what), z.count(what));
        }
        due("one call", y.count(6), 1);
        due("none can be", new YawnRoute().season(3, 40), 0);
    }

    private static int[] draws(int seed, int n) {
        int[] all = new int[n];
        int x = seed;
        for (int i = 0; i < n; i++) {
            x = 1103515245 * x + 12345;
            all[i] = x >>> 16;
        }
        return all;
    }

    private static int doneSo(YawnRoute x, int kind, int s, int n) {
        return kind < 3 ? x.pass(s) : kind == 3 ? x.sleep(s) : kind == 4 ? x.dull(s, n) : x.off(s, n);
    }

    private static int oneDeed(int seed) {
        int[] draws = draws(seed, 3);
        int kind = draws[0] % 6;
        YawnRoute x = Check.of(FORK);
        YawnRoute y = Check.of(FORK);
        int done = doneSo(y, kind, draws[1] % 7, kind == 4 ? draws[2] % 10 : 1 + draws[2] % 9);
        due("a season of one", x.season(seed, 1), done >= 0 ? 1 : 0);
        due("can be undone", x.count(6), done >= 0 ? 1 : 0);
        for (int what = 0; what < 6; what++) {
            due("seed " + seed + " count " + what, x.count(what), y.count(what));
        }
        for (int s = 0; s < 4; s++) {
            due("seed " + seed + " dull " + s, x.station(s, 0), y.station(s, 0));
        }
        return kind;
    }

    private static void soonest() {
        promise++;
        YawnRoute x = Check.of(FORK);
        due("over 1", x.soonest(2, 1), 3);
        due("straight on, as the size asks", x.soonest(2, 8), 5);
        due("there already", x.soonest(0, 10), 0);
        due("with more than it asks", x.soonest(0, 1), 0);
        due("too big", x.soonest(2, 10), NONE);
        due("asleep", x.soonest(3, 1), NONE);
        due("none such", x.soonest(4, 0), -2);
        due("none such", x.soonest(-1, 1), -2);
        due("size 0", x.soonest(2, 0), -3);
        due("size 41", x.soonest(2, 41), -3);
        due("nowhere", Check.of(NOWHERE).soonest(1, 1), -5);
        due("the size ahead of nowhere", Check.of(NOWHERE).soonest(1, 0), -3);
        due("the station ahead of the size", Check.of(NOWHERE).soonest(2, 0), -2);
        x.sleep(1);
        due("1 sleeps", x.soonest(2, 1), 5);
        YawnRoute grows = Check.of("net;station;station;way 0 1 hours 9;way 1 0 hours 9;at 0 size 1;passes:size+1;");
        due("back and forth", grows.soonest(0, 39), 38 * 9);
        due("the other", grows.soonest(1, 40), 39 * 9);
        due("40 at most there", grows.soonest(0, 40), 40 * 9);
        due("by as many", grows.fewest(0, 40), 40);
    }

    private static void soonBy() {
        promise++;
        YawnRoute x = Check.of(FORK);
        route("to 2", soon(x, 2, 1), "12");
        route("to 2 with 8", soon(x, 2, 8), "2");
        route("to 0", soon(x, 0, 1), "");
        due("not so many", x.soonBy(2, 1, 2), NONE);
        due("far too many", x.soonBy(2, 1, MAX), NONE);
        due("there already", x.soonBy(0, 1, 0), NONE);
        due("it can't be", x.soonBy(2, 10, 0), NONE);
        due("below 0", x.soonBy(2, 1, -1), -3);
        due("below 0", x.soonBy(3, 1, MIN), -3);
        due("size", x.soonBy(2, 41, 0), -3);
        due("none such", x.soonBy(4, 0, -1), -2);
        due("nowhere", Check.of(NOWHERE).soonBy(1, 1, 0), -5);
        due("i ahead of nowhere", Check.of(NOWHERE).soonBy(1, 1, -1), -3);
        String like = "net;station;station;station;station;station;way 0 3 hours 2;way 3 4 hours 2;way 0 2;"
            + "way 2 1 hours 2;way 1 4;way 0 1 hours 3;way 2 4 hours 3;at 0 size 1;";
        route("of like hours the fewest passings, then the first", soon(Check.of(like), 4, 1), "14");
        route("the next, as that takes longer", soon(Check.of(like + "way 0 1 hours 4;"), 4, 1), "24");
        route("of as many hours the fewest", soon(Check.of(like + "way 0 4 hours 4;"), 4, 1), "4");
        route("three, as all else takes longer", soon(Check.of(like
            + "way 0 1 hours 4;way 2 4 hours 4;way 3 4 hours 3;"), 4, 1), "214");
        YawnRoute late = Check.of("net;station;station;station;station;way 0 1;way 0 2;way 1 3;way 2 3;at 0 size 3;"
            + "passes:if station=2 then 9 else size end;");
        route("the first", soon(late, 3, 1), "13");
        route("the first of those that are big enough", soon(late, 3, 9), "23");
    }

    private static void fewest() {
        promise++;
        YawnRoute x = Check.of(FORK);
        due("straight on", x.fewest(2, 1), 1);
        due("there", x.fewest(0, 1), 0);
        due("too big", x.fewest(2, 10), NONE);
        due("asleep", x.fewest(3, 1), NONE);
        due("none such", x.fewest(4, 1), -2);
        due("size", x.fewest(2, 0), -3);
        due("size", x.fewest(2, 41), -3);
        due("nowhere", Check.of(NOWHERE).fewest(1, 1), -5);
        due("a chain", Check.of(CHAIN).fewest(4, 1), 3);
        YawnRoute grows = Check.of("net;station;station;station;way 0 1;way 1 0;way 1 2;at 0 size 1;passes:size+1;");
        due("with a size told, around", grows.fewest(2, 7), 6);
        due("with less", grows.fewest(2, 3), 2);
        due("lost on the way", Check.of("net;station;station;station;way 0 1;way 1 2;at 0 size 1;passes:size-1;").fewest(2, 1), NONE);
    }

    private static void fewBy() {
        promise++;
        YawnRoute x = Check.of(FORK);
        route("to 2", few(x, 2, 1), "2");
        due("not so many", x.fewBy(2, 1, 1), NONE);
        due("far too many", x.fewBy(2, 1, MAX), NONE);
        due("there already", x.fewBy(0, 1, 0), NONE);
        due("it can't be", x.fewBy(3, 1, 0), NONE);
        due("below 0", x.fewBy(2, 1, -1), -3);
        due("size", x.fewBy(2, 0, 0), -3);
        due("none such", x.fewBy(4, 1, 0), -2);
        due("nowhere", Check.of(NOWHERE).fewBy(1, 1, 0), -5);
        route("the first, though it takes longer", few(Check.of("net;station;station;station;station;"
            + "way 0 1 hours 9;way 0 2;way 1 3 hours 9;way 2 3;at 0 size 1;"), 3, 1), "13");
        YawnRoute grows = Check.of("net;station;station;station;way 0 1;way 1 0;way 1 2;at 0 size 1;passes:size+1;");
        route("around", few(grows, 2, 7), "101012");
    }

    private static void biggest() {
        promise++;
        YawnRoute x = Check.of(FORK);
        due("2", x.biggest(2), 9);
        due("1", x.biggest(1), 8);
        due("where it is, without a passing", x.biggest(0), 10);
        due("asleep", x.biggest(3), NONE);
        due("none such", x.biggest(4), -2);
        due("none such", x.biggest(-1), -2);
        due("nowhere", Check.of(NOWHERE).biggest(1), -5);
        due("40", Check.of("net;station;station;way 0 1;way 1 0;at 0 size 1;passes:size+1;").biggest(0), 40);
        due("greater, though a smaller one is there ahead", Check.of("net;station;station;station;way 0 1;"
            + "way 1 0;way 1 2;at 0 size 5;takes:not [station=2 and size>4];passes:size-1;").biggest(2), 3);
    }

    private static void reach() {
        promise++;
        YawnRoute x = Check.of(FORK);
        due("all but the one asleep", x.reach(), 7);
        x.sleep(3);
        due("all", x.reach(), 15);
        x.sleep(2);
        due("not 2", x.reach(), 11);
        due("alone", Check.of(ALONE).reach(), 1);
        due("nowhere", Check.of(NOWHERE).reach(), -5);
        due("lost in none", Check.of("net;station;station;way 0 1;at 0 size 2;passes:0;").reach(), 1);
        x.off(3, 1);
        due("from where it is now", x.reach(), 8);
    }

    private static void needed() {
        promise++;
        YawnRoute x = Check.of(CHAIN);
        due("1 and 3", x.needed(4), 10);
        due("1", x.needed(3), 2);
        due("1", x.needed(2), 2);
        due("none", x.needed(1), 0);
        due("it is there", x.needed(0), 0);
        due("none such", x.needed(5), -2);
        due("none such", x.needed(-1), -2);
        due("nowhere", Check.of(NOWHERE).needed(0), -5);
        x.sleep(2);
        due("one that sleeps isn't", x.needed(4), 10);
        x.sleep(3);
        due("there is none anyhow", x.needed(4), 0);
        due("two ways", Check.of(FORK).needed(2), 0);
    }

    private static void sleepers() {
        promise++;
        YawnRoute x = Check.of(CHAIN);
        due("one", x.sleepers(4, 0), 1);
        due("the least", x.sleepers(4, 1), 2);
        due("none do", x.sleepers(1, 0), NONE);
        due("none do", x.sleepers(1, 1), NONE);
        due("it is there", x.sleepers(0, 1), NONE);
        due("no such what", x.sleepers(4, 2), -2);
        due("no such what", x.sleepers(4, -1), -2);
        due("none such", x.sleepers(5, 0), -2);
        due("nowhere", Check.of(NOWHERE).sleepers(0, 0), -5);
        due("asleep anyhow", Check.of(FORK).sleepers(3, 0), 0);
        due("asleep anyhow", Check.of(FORK).sleepers(3, 1), 0);
        YawnRoute two = Check.of("net;station;station;station;station;station;station;way 0 4;way 0 3;way 4 1;"
            + "way 3 1;way 1 5;way 3 2;way 4 2;way 2 5;at 0 size 1;");
        due("two", two.sleepers(5, 0), 2);
        due("1 and 2", two.sleepers(5, 1), 6);
        two.sleep(2);
        due("one more", two.sleepers(5, 0), 1);
        due("1", two.sleepers(5, 1), 2);
    }

    private static void spread() {
        promise++;
        YawnRoute x = Check.of(FORK);
        due("at first", x.spread(0, 0), 10);
        due("none yet", x.spread(1, 0), 0);
        due("1", x.spread(1, 1), 8);
        due("2", x.spread(2, 1), 9);
        due("the greatest is kept", x.spread(2, 2), 9);
        due("its own is kept", x.spread(0, 9), 10);
        due("asleep", x.spread(3, 999), 0);
        due("1000", x.spread(0, 1000), -3);
        due("below 0", x.spread(0, -1), -3);
        due("none such", x.spread(4, -1), -2);
        due("nowhere", Check.of(NOWHERE).spread(0, 0), -5);
        due("n ahead of nowhere", Check.of(NOWHERE).spread(0, -1), -3);
        YawnRoute chain = Check.of(CHAIN);
        due("one by one", chain.spread(3, 1), 0);
        due("one by one", chain.spread(3, 2), 5);
        due("one by one", chain.spread(4, 2), 0);
        due("one by one", chain.spread(4, 3), 5);
        YawnRoute grows = Check.of("net;station;station;way 0 1;way 1 0;at 0 size 2;passes:if station=1 then size else size*3 end;");
        due("sizes as they were ahead", grows.spread(0, 1), 2);
        due("then", grows.spread(0, 2), 6);
        due("in the end", grows.spread(1, 999), 40);
    }

    private static void rounds() {
        promise++;
        due("one", Check.of(FORK).rounds(), 1);
        due("three", Check.of(CHAIN).rounds(), 3);
        due("none", Check.of(ALONE).rounds(), 0);
        due("nowhere", Check.of(NOWHERE).rounds(), -5);
        due("none yet", new YawnRoute().rounds(), -5);
        due("till 40 is everywhere", Check.of("net;station;station;way 0 1;way 1 0;at 0 size 1;passes:size+1;").rounds(), 40);
        due("lost ones change nothing", Check.of("net;station;station;way 0 1;at 0 size 2;passes:0;").rounds(), 0);
    }

    private static void crowd() {
        promise++;
        due("all but the one asleep", Check.of(FORK).crowd(), 7);
        due("all", Check.of(CHAIN).crowd(), 31);
        due("alone", Check.of(ALONE).crowd(), 1);
        due("nowhere", Check.of(NOWHERE).crowd(), -5);
        due("who has a greater one can pass on less than by routes", Check.of("net;station;station;station;station;"
            + "way 0 1;way 1 2;way 0 3;way 3 1;at 0 size 5;takes:not [station=2 and size=5];"
            + "passes:if station=3 then 2 else size end;").crowd(), 11);
    }

    private static void stopper() {
        promise++;
        YawnRoute x = Check.of(CHAIN);
        due("the first stands in the way of all", x.stopper(), 1);
        x.sleep(1);
        due("none has it anyhow: the first", x.stopper(), 2);
        x.sleep(2);
        x.sleep(3);
        due("the last awake", x.stopper(), 4);
        x.sleep(4);
        due("there is none such", x.stopper(), NONE);
        due("alone", Check.of(ALONE).stopper(), NONE);
        due("nowhere", Check.of(NOWHERE).stopper(), -5);
        due("nothing is done", x.count(4), 30);
        due("of like ones the first", Check.of("net;station;station;station;way 0 1;way 0 2;at 0 size 1;").stopper(), 1);
        due("a later one that holds more", Check.of("net;station;station;station;station;way 0 1;way 0 2;way 2 3;at 0 size 1;").stopper(), 2);
    }

    private static void meets() {
        promise++;
        YawnRoute x = Check.of(FORK);
        due("at once", x.meets(0, 1, 10), 1);
        due("one and the same", x.meets(2, 2, 1), 0);
        due("never", x.meets(3, 0, 5), NONE);
        due("none such", x.meets(4, 0, 1), -2);
        due("none such", x.meets(0, 4, 1), -2);
        due("none such", x.meets(-1, 0, 0), -2);
        due("size 0", x.meets(0, 0, 0), -3);
        due("size 41", x.meets(0, 1, 41), -3);
        due("nowhere is as good", Check.of(NOWHERE).meets(1, 0, 1), 1);
        String row = "net;station;station;station;station;station;way 0 1;way 1 2;way 4 3;way 3 2;";
        due("both go two on", Check.of(row).meets(0, 4, 3), 2);
        due("either way", Check.of(row).meets(4, 0, 3), 2);
        due("one of them goes on", Check.of(row).meets(0, 2, 3), 2);
        due("from one asleep", Check.of(row.replace("net;station;", "net;station asleep;")).meets(0, 4, 3), 2);
        due("by the law", Check.of(row + "takes:size>3;").meets(0, 4, 3), NONE);
        due("its size counts", Check.of(row + "takes:size>3;").meets(0, 4, 4), 2);
        due("nothing is let off", x.count(2), 0);
    }

    private static void back() {
        promise++;
        YawnRoute x = Check.of(FORK);
        due("over 2", x.back(2, 0, 9), 1);
        due("over 1 and 2", x.back(3, 0, 7), 1);
        due("just that size", x.back(3, 0, 8), 0);
        due("asleep", x.back(1, 3, 5), 0);
        due("n is 0", x.back(0, 0, 5), -3);
        due("n is 11", x.back(11, 0, 5), -3);
        due("size 0", x.back(1, 0, 0), -3);
        due("size 41", x.back(1, 0, 41), -3);
        due("none such", x.back(0, 4, 0), -2);
        due("none such", x.back(1, -1, 1), -2);
        due("nowhere", Check.of(NOWHERE).back(1, 0, 1), -5);
        due("n ahead of nowhere", Check.of(NOWHERE).back(0, 0, 1), -3);
        due("all ways", complete().back(10, 0, 3), (60466176 - 1) / 7 + 1);
        due("all ways elsewhere", complete().back(10, 6, 3), (60466176 - 1) / 7);
        due("in one", complete().back(1, 6, 3), 1);
        due("not in one", complete().back(1, 0, 3), 0);
        due("in two", complete().back(2, 0, 3), 6);
    }

    /** Seven stations, a way from each to each: in n passings 6^n routes, by 7 to each but for one. */
    private static YawnRoute complete() {
        StringBuilder b = new StringBuilder("net;");
        for (int s = 0; s < 7; s++) {
            b.append("station;");
        }
        for (int s = 0; s < 7; s++) {
            for (int t = 0; t < 7; t++) {
                b.append(s == t ? "" : "way " + s + " " + t + ";");
            }
        }
        return Check.of(b.append("at 0 size 3;").toString());
    }

    private static void backBy() {
        promise++;
        YawnRoute x = Check.of(FORK);
        due("2", x.backBy(2, 0, 9, 0), 2);
        due("0", x.backBy(2, 0, 9, 1), 0);
        due("not so many", x.backBy(2, 0, 9, 2), NONE);
        due("far too many", x.backBy(2, 0, 9, MAX), NONE);
        due("there are none", x.backBy(1, 3, 5, 0), NONE);
        due("below 0", x.backBy(2, 0, 9, -1), -3);
        due("n", x.backBy(0, 0, 9, 0), -3);
        due("n", x.backBy(11, 0, 9, 0), -3);
        due("size", x.backBy(2, 0, 41, 0), -3);
        due("none such", x.backBy(2, 4, 9, -1), -2);
        due("nowhere", Check.of(NOWHERE).backBy(1, 0, 1, 0), -5);
        due("nowhere, told ahead of i", Check.of(NOWHERE).backBy(1, 0, 1, -1), -5);
        due("n, told ahead of nowhere", Check.of(NOWHERE).backBy(0, 0, 1, -1), -3);
        due("below 0, told ahead of there are none", x.backBy(1, 3, 5, -1), -3);
        YawnRoute y = complete();
        String first = "";
        for (int i = 0; i < 10; i++) {
            first += y.backBy(10, 0, 3, i);
        }
        route("the first of ten", first, "1010101010");
        due("the first of three, 0", y.backBy(3, 2, 3, 0), 1);
        due("the first of three, 1", y.backBy(3, 2, 3, 1), 0);
        due("the first of three, 2", y.backBy(3, 2, 3, 2), 2);
    }

    private static void surely() {
        promise++;
        YawnRoute x = Check.of(FORK);
        due("2 and 0", x.surely(2, 0, 9), 5);
        due("1, 2 and 0", x.surely(3, 0, 7), 7);
        due("none", x.surely(1, 3, 5), 0);
        due("where it starts it didn't come", x.surely(1, 2, 9), 4);
        due("n", x.surely(0, 0, 9), -3);
        due("n", x.surely(11, 0, 9), -3);
        due("size", x.surely(1, 0, 0), -3);
        due("none such", x.surely(1, 4, 9), -2);
        due("nowhere", Check.of(NOWHERE).surely(1, 0, 1), -5);
        due("only the last of many", complete().surely(2, 0, 3), 1);
        due("only the last of many", complete().surely(10, 4, 3), 16);
        due("over 1, 3", Check.of(CHAIN).surely(3, 4, 5), 26);
        due("over 1, 2, 3", Check.of(CHAIN).surely(4, 4, 5), 30);
    }

    private static void dulls() {
        promise++;
        YawnRoute x = Check.of(FORK);
        due("missing", x.dulls(0, 1, 7), -6);
        due("no such tray", x.dulls(4, 1, 7), -2);
        due("none such ahead", x.dulls(0, 4, 7), -2);
        Check.tray(x, 0);
        due("no numbers", x.dulls(0, 1, 0), -4);
        Check.tray(x, 0, 1, 2, 0, 1, 2, 0, 1, 2, 0, 1, 2);
        due("eleven", x.dulls(0, 1, 7), -4);
        Check.tray(x, 0, 1, 4);
        due("one is no station", x.dulls(0, 1, 7), -3);
        Check.tray(x, 0, 1, -1);
        due("one is no station", x.dulls(0, 1, 7), -3);
        Check.tray(x, 0, 1, (1L << 32) + 2);
        due("one is no station", x.dulls(0, 1, 7), -3);
        Check.tray(x, 0, 1, 2);
        due("size 0", x.dulls(0, 1, 0), -3);
        due("size 41", x.dulls(0, 1, 41), -3);
        due("10-d+1-1 is 7", x.dulls(0, 1, 7), 8);
        due("is 10", x.dulls(0, 1, 10), 1);
        due("is 11", x.dulls(0, 1, 11), 0);
        due("of 2, 8-d is 7", x.dulls(0, 2, 7), 2);
        due("of 2, 8-d is 1", x.dulls(0, 2, 1), 128);
        due("of 0, none asks", x.dulls(0, 0, 7), 1023);
        due("of 0, it isn't so", x.dulls(0, 0, 8), 0);
        Check.tray(x, 0, 1, 2, 0, 1, 2, 0, 1, 2, 0, 2);
        // four times 1 or 2 takes 1 off, three times 1 takes d-1 off
        due("ten", x.dulls(0, 1, 6), 2);
        due("ten", x.dulls(0, 1, 3), 4);
        Check.tray(x, 0, 1, 3);
        due("asleep", x.dulls(0, 1, 8), 0);
        Check.tray(x, 0, 2, 1);
        due("no way", x.dulls(0, 1, 8), 0);
        due("nothing is done", x.station(1, 0) * 10 + x.count(2) + x.count(6), 30);
        YawnRoute y = Check.of(NOWHERE);
        Check.tray(y, 0, 1);
        due("nowhere", y.dulls(0, 1, 1), -5);
        due("the size ahead of nowhere", y.dulls(0, 1, 0), -3);
        YawnRoute z = Check.of("net;station;station;way 0 1;way 1 0;at 0 size 3;passes:if dull>4 then 9 else 0 end;");
        Check.tray(z, 0, 1);
        due("as if lost", z.dulls(0, 1, 9), 992);
    }

    private static void attempt() {
        promise++;
        YawnRoute x = Check.of(FORK);
        due("missing", x.attempt(0, 1, 7), -6);
        due("no such tray", x.attempt(-1, 1, 7), -2);
        Check.tray(x, 0, 1, 2);
        due("none such", x.attempt(0, 4, 7), -2);
        due("size", x.attempt(0, 1, 0), -3);
        due("from 0", x.attempt(0, 1, 7), 0);
        due("no dullness", x.attempt(0, 1, 11), NONE);
        due("the first from which a way leads", x.attempt(0, 0, 7), 2);
        Check.tray(x, 0);
        due("no numbers", x.attempt(0, 1, 7), -4);
        Check.tray(x, 0, 9);
        due("no station", x.attempt(0, 1, 7), -3);
        YawnRoute y = Check.of("net;station;station;station;station;station;way 0 4;way 1 4;way 2 4;way 3 4;way 4 0;"
            + "at 0 size 5;passes:if from=0 or from=4 then 5 else if from=1 then if dull<8 then 3 else 4 end else "
            + "if from=2 then size+dull else 1+dull*2 end end end;");
        Check.tray(y, 0, 4);
        due("none is told apart", y.dulls(0, 4, 5), 1023);
        due("from 2 each brings its own", y.attempt(0, 4, 5), 2);
        Check.tray(y, 1, 4, 0);
        due("nobody tells of 1, no way leads there", y.attempt(1, 1, 5), NONE);
        y.sleep(4);
        Check.tray(y, 0, 4);
        due("it sleeps, so no route", y.attempt(0, 4, 5), NONE);
        y.off(4, 5);
        Check.tray(y, 0, 0);
        due("it sleeps: all can't, the first", y.attempt(0, 4, 5), 0);
        YawnRoute z = Check.of("net;station;station;station;station;way 1 3;way 0 3;way 3 0;way 0 2;at 0 size 9;"
            + "takes:from=1 or dull<6;passes:if from=1 then 7+dull*0 else if dull<3 then 9-dull else 0 end end;");
        Check.tray(z, 0, 2);
        due("lost and can't are as one: 7 against 10", z.attempt(0, 3, 9), 0);
        due("9 lost against 5 lost", tellsApart("if dull=9 then 2 else 0 end", "if dull<5 then 0 else 1 end"), 1);
        due("9 lost against 10 lost", tellsApart("if dull=9 then 2 else 0 end", "0"), 0);
        due("5 without 0 against 5 with it", tellsApart("if dull>4 then 20 else dull+1 end",
            "if dull<5 then 20 else dull end"), 0);
        due("5 without 9 against 5 with it", tellsApart("if dull<5 then 20 else dull end",
            "if dull>4 then 20 else dull+1 end"), 0);
        YawnRoute nowhere = Check.of(NOWHERE);
        Check.tray(nowhere, 0, 1);
        due("nowhere", nowhere.attempt(0, 1, 1), -5);
    }

    /** Nothing is known of how dull 2 is: two sums tell what passing to it from 0 and from 1 brings. */
    private static int tellsApart(String from0, String from1) {
        YawnRoute x = Check.of("net;station;station;station;station;way 0 2;way 1 2;way 0 3;at 0 size 9;passes:"
            + "if station=3 then 9 else if from=0 then " + from0 + " else " + from1 + " end end;");
        Check.tray(x, 0, 3);
        return x.attempt(0, 2, 9);
    }

    private static void forces() {
        promise++;
        YawnRoute x = Check.of(FORK);
        due("at once", x.forces(2), 1);
        due("it is there", x.forces(0), 0);
        due("asleep", x.forces(3), NONE);
        due("none such", x.forces(4), -2);
        due("none such", x.forces(-1), -2);
        due("nowhere", Check.of(NOWHERE).forces(0), -5);
        due("the child puts it to sleep", Check.of(CHAIN).forces(2), NONE);
        due("lost", Check.of("net;station;station;way 0 1;at 0 size 1;passes:0;").forces(1), NONE);
        x.off(3, 5);
        due("there, asleep", x.forces(3), 0);
        due("no way", x.forces(0), NONE);
    }

    private static void best() {
        promise++;
        YawnRoute x = Check.of(FORK);
        due("that very station", x.best(2), 2);
        due("it is there", x.best(0), NONE);
        due("he doesn't", x.best(3), NONE);
        due("none such", x.best(4), -2);
        due("none such", x.best(-1), -2);
        due("nowhere", Check.of(NOWHERE).best(0), -5);
        due("he doesn't", Check.of(CHAIN).best(4), NONE);
    }

    private static void chance() {
        promise++;
        YawnRoute x = Check.of(FORK);
        due("3 of 10 lots stay", x.chance(0, 1, 0), 3);
        due("of 10", x.chance(0, 1, 1), 10);
        due("4 of 10", x.chance(2, 1, 0), 2);
        due("in lowest terms", x.chance(2, 1, 1), 5);
        due("now", x.chance(0, 0, 0), 1);
        due("surely", x.chance(0, 0, 1), 1);
        due("not there", x.chance(1, 0, 0), 0);
        due("0 in lowest terms", x.chance(1, 0, 1), 1);
        due("twice", x.chance(0, 2, 0), 49);
        due("twice", x.chance(0, 2, 1), 100);
        due("no such what", x.chance(0, 1, 2), -2);
        due("no such what", x.chance(0, 1, -1), -2);
        due("none such", x.chance(4, 7, 0), -2);
        due("n is 7", x.chance(0, 7, 0), -3);
        due("n below 0", x.chance(0, -1, 0), -3);
        due("nowhere", Check.of(NOWHERE).chance(0, 0, 0), -5);
        due("n ahead of nowhere", Check.of(NOWHERE).chance(0, 7, 0), -3);
        YawnRoute full = Check.of("net;station;station;station;station;way 0 3 odds 9;way 0 2 odds 6;way 0 1 odds 3;at 0 size 1;");
        due("3 lots", full.chance(1, 1, 0), 3);
        due("6 lots", full.chance(2, 1, 0), 3);
        due("the last one", full.chance(3, 1, 0), 1);
        due("of ten", full.chance(3, 1, 1), 10);
        due("none stays", full.chance(0, 1, 0), 0);
        full.sleep(2);
        due("whose lots are drawn can't", full.chance(0, 1, 0), 3);
        due("no more for 3", full.chance(3, 1, 0), 1);
        YawnRoute lost = Check.of("net;station;station;way 0 1 odds 5;at 0 size 1;passes:0;");
        due("lost by half, six times", lost.chance(0, 6, 1), 64);
        due("above", lost.chance(0, 6, 0), 1);
        due("lost stays lost", lost.chance(1, 6, 0), 0);
        YawnRoute six = Check.of("net;station;station;way 0 1 odds 1;at 0 size 1;");
        due("9 to the sixth", six.chance(0, 6, 0), 531441);
        due("10 to the sixth", six.chance(0, 6, 1), 1000000);
        due("odds 0", Check.of("net;station;station;way 0 1 odds 0;at 0 size 1;").chance(1, 6, 0), 0);
    }

    private static void likeliest() {
        promise++;
        YawnRoute x = Check.of(FORK);
        due("now", x.likeliest(0), 0);
        due("then", x.likeliest(1), 2);
        due("n is 7", x.likeliest(7), -3);
        due("n below 0", x.likeliest(-1), -3);
        due("nowhere", Check.of(NOWHERE).likeliest(1), -5);
        due("n ahead of nowhere", Check.of(NOWHERE).likeliest(7), -3);
        due("of like ones the first", Check.of("net;station;station;way 1 0 odds 5;at 1 size 1;").likeliest(1), 0);
        due("surely lost", Check.of("net;station;station;way 0 1 odds 10;at 0 size 1;passes:0;").likeliest(1), NONE);
        due("lost by 9 of 10", Check.of("net;station;station;way 0 1 odds 9;at 0 size 1;passes:0;").likeliest(6), 0);
    }

    private static void numbers() {
        promise++;
        YawnRoute x = new YawnRoute();
        due("none", x.numbers(0, 0, 0), 0);
        due("no number", x.write(0, 0, 1), -7);
        due("forty", x.numbers(3, 3, 40), 0);
        due("the last", x.write(3, 39, 5), 5);
        due("no more", x.write(3, 40, 5), -7);
        due("no such tray", x.numbers(4, 0, 1), -2);
        due("no such tray", x.numbers(-1, 0, 1), -2);
        due("no such sort", x.numbers(0, 4, 41), -2);
        due("no such sort", x.numbers(0, -1, 1), -2);
        due("41", x.numbers(3, 0, 41), -3);
        due("below 0", x.numbers(3, 0, -1), -3);
        due("the tray stays, its sort, too", x.write(3, 39, 1L << 40), 1L << 40);
        Check.read(x, FORK);
        due("anew", x.numbers(3, 1, 2), 0);
        due("all 0: the first can't be", x.judge(3, 0), 0);
        due("no way from 0 to 0", x.judge(3, 1), 2);
        due("as short as that", x.write(3, 2, 0), -7);
        due("missing still", x.judge(1, 0), -6);
    }

    private static void write() {
        promise++;
        YawnRoute x = new YawnRoute();
        due("missing", x.write(0, 0, 1), -6);
        due("missing ahead of the place", x.write(0, -1, 1), -6);
        due("no such tray", x.write(4, 0, 1), -2);
        due("no such tray", x.write(-1, -1, 1), -2);
        long big = 0x1234567890abcdefL;
        for (int sort = 0; sort < 4; sort++) {
            x.numbers(sort, sort, 2);
            due("below", x.write(sort, -1, 1), -7);
            due("above", x.write(sort, 2, 1), -7);
            due("0", x.write(sort, 0, 0), 0);
            due("-1", x.write(sort, 1, -1), -1);
        }
        due("8 bits", x.write(0, 0, big), (byte) 0xef);
        due("127", x.write(0, 0, 127), 127);
        due("128", x.write(0, 0, 128), -128);
        due("256", x.write(0, 0, 256), 0);
        due("16 bits", x.write(1, 1, big), (short) 0xcdef);
        due("32767", x.write(1, 1, 32767), 32767);
        due("32768", x.write(1, 1, 32768), -32768);
        due("32 bits", x.write(2, 0, big), 0x90abcdef);
        due("64 bits", x.write(3, 0, big), big);
        due("the least", x.write(3, 0, Long.MIN_VALUE), Long.MIN_VALUE);
        due("as it is there", Check.of(FORK).write(0, 0, 1), -6);
        YawnRoute y = Check.of(FORK);
        y.numbers(0, 0, 1);
        y.write(0, 0, 257);
        due("cut to 1: it passes there", y.perform(0), 1);
        due("there", y.count(2), 1);
    }

    private static void lists() {
        promise++;
        YawnRoute x = Check.of(FORK);
        due("missing", x.lists(0, 2), -6);
        due("no such tray", x.lists(4, 2), -2);
        due("none such ahead", x.lists(0, 4), -2);
        Check.tray(x, 0, 77, 77, 77);
        due("two", x.lists(0, 2), 2);
        due("they can be done", x.perform(0), 2);
        due("there", x.count(2), 2);
        x.undo(1);
        due("what is behind stays", x.judge(0, 0), 2);
        due("as it was", x.judge(0, 1), 1);
        Check.tray(x, 1, 77);
        due("as far as it has places", x.lists(1, 2), 1);
        x.perform(1);
        due("the first one", x.count(2), 1);
        x.undo(1);
        Check.tray(x, 2);
        due("no places", x.lists(2, 2), 0);
        due("it is there: none", x.lists(1, 0), 0);
        due("there is none", x.lists(1, 3), -5);
        YawnRoute y = Check.of(NOWHERE);
        due("missing ahead of nowhere", y.lists(0, 0), -6);
        Check.tray(y, 0, 1);
        due("nowhere", y.lists(0, 0), -5);
    }

    private static void image() {
        promise++;
        YawnRoute x = Check.of(FORK);
        due("no such image", x.image(2), -2);
        due("no such image", x.image(-1), -2);
        x.pass(1);
        due("made", x.image(0), 0);
        due("nothing is changed", x.count(6), 1);
        due("the other", x.image(1), 0);
        x.pass(2);
        due("made anew", x.image(0), 0);
        x.off(0, 1);
        x.restore(0);
        due("the later one", x.count(2), 2);
        x.restore(1);
        due("the other one", x.count(2), 1);
        due("no such image", x.image(MAX), -2);
    }

    private static void restore() {
        promise++;
        YawnRoute x = Check.of(FORK);
        due("no such image", x.restore(2), -2);
        due("no such image", x.restore(-1), -2);
        due("none was made", x.restore(0), -5);
        x.pass(1);
        x.sleep(0);
        x.dull(2, 4);
        x.image(1);
        due("none was made", x.restore(0), -5);
        Check.read(x, ALONE);
        Check.tray(x, 0, 5);
        x.feed(1, 2, 3, 4, 5);
        x.off(0, 3);
        due("restored", x.restore(1), 0);
        due("stations", x.count(0), 4);
        due("ways", x.count(1), 5);
        due("where it is", x.count(2), 1);
        due("its size", x.count(3), 8);
        due("asleep", x.count(4), 9);
        due("hours", x.count(5), 2);
        due("nothing can be undone", x.count(6), 0);
        due("undo", x.undo(1), -3);
        due("the tape is none of it", x.count(7), 20);
        due("lines", x.count(8), 13);
        due("dull", x.station(2, 0), 4);
        due("kind", x.station(1, 1), 1);
        due("the laws", x.brings(2), 4);
        due("trays are none of it", x.write(0, 0, 6), 6);
        x.pass(2);
        due("again", x.restore(1), 0);
        due("as it was", x.count(3), 8);
        YawnRoute y = Check.of(CHAIN);
        y.image(0);
        Check.read(y, CHAIN + "takes:kind=1;");
        due("the law takes none", y.reach(), 1);
        y.restore(0);
        due("without that law", y.reach(), 31);
    }

    private static void count() {
        promise++;
        YawnRoute x = Check.of(FORK);
        int[] all = {4, 5, 0, 10, 8, 0, 0, 0, 13};
        for (int what = 0; what < all.length; what++) {
            due("count(" + what + ")", x.count(what), all[what]);
        }
        due("others", x.count(9), NONE);
        due("others", x.count(-1), NONE);
        due("others", x.count(MAX), NONE);
        due("others", x.count(MIN), NONE);
        x.feed(1, 2, 3, 4, 5);
        due("the tape", x.count(7), 20);
    }
}
