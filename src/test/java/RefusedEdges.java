/** What holds of every call that is refused: it changes nothing, and of several refusals one is told. */
final class RefusedEdges extends EdgePart {
    private static final String ORDER = "(Of several that which the call tells first; all these ahead of NONE.)";
    private static final int MISSING = 0;
    private static final int EMPTY = 1;
    private static final int WRONG = 2;
    private static final int GOOD = 3;

    private interface Call {
        long on(YawnRoute x);
    }

    RefusedEdges(Edges edges) {
        super(edges);
    }

    @Override
    void all() {
        faultyNet();
        refusedDeeds();
        refusedQuestions();
        refusedRoutes();
        refusedByNowhere();
        refusedTrays();
        orderOfNet();
        orderOfDeeds();
        orderOfRoutes();
        orderOfSpreading();
        orderOfBack();
        orderOfTold();
        orderOfChances();
        orderOfTrays();
    }

    /** It is at 1; 3 sleeps, 2 is too dull; three calls can be undone; an image, trays, 20 bytes. */
    private static YawnRoute used() {
        YawnRoute x = Check.of(FORK);
        x.pass(1);
        x.sleep(0);
        x.dull(2, 9);
        x.image(0);
        Check.tray(x, EMPTY);
        Check.tray(x, WRONG, 13, 4);
        Check.tray(x, GOOD, 3, 13);
        Check.feed(x, "net;station;station;");
        return x;
    }

    /** As used(), but the yawn is nowhere, and only two calls can be undone. */
    private static YawnRoute usedNowhere() {
        YawnRoute x = Check.of(FORK.replace("at 0 size 10;", ""));
        x.sleep(0);
        x.dull(2, 9);
        x.image(0);
        Check.tray(x, EMPTY);
        Check.tray(x, WRONG, 13, 4);
        Check.tray(x, GOOD, 3, 1);
        Check.feed(x, "net;station;station;");
        return x;
    }

    /** All that can be asked, and what undoing, an image and the tape bring. */
    private static String told(YawnRoute x) {
        StringBuilder b = new StringBuilder(look(x));
        for (int tray = 0; tray < 4; tray++) {
            for (int what = 0; what < 4; what++) {
                b.append(' ').append(x.judge(tray, what));
            }
        }
        b.append(' ').append(x.restore(1)).append(' ').append(x.undo(x.count(6))).append(' ').append(look(x));
        b.append(' ').append(x.restore(0));
        for (int what = 0; what <= 8; what++) {
            b.append(' ').append(x.count(what));
        }
        return b.append(' ').append(x.net(x.count(7))).append(' ').append(x.count(0)).toString();
    }

    private static String meaning(int code) {
        switch (code) {
            case -2: return "-2 there is none such;";
            case -3: return "-3 a number can't be;";
            case -4: return "-4 too many;";
            case -5: return "-5 it can't be now;";
            case -6: return "-6 a TRAY is MISSING;";
            case -7: return "-7 it has no such number;";
            default: return "-11 to -14 why not (1 to 4);";
        }
    }

    private void refused(int promise, int code, String call, Call done) {
        refused(promise, code, call, done, used(), used());
    }

    private void nowhere(int promise, String call, Call done) {
        refused(promise, -5, call, done, usedNowhere(), usedNowhere());
    }

    private void refused(int promise, int code, String call, Call done, YawnRoute x, YawnRoute like) {
        edge(promise, meaning(code), () -> {
            due(call, done.on(x), code);
            String now = told(x);
            String ahead = told(like);
            due(call + " changed something: it is " + now + ", not " + ahead + " (1: alike)", now.equals(ahead) ? 1 : 0, 1);
        });
    }

    private void faultyNet() {
        edge(3, "Refused calls answer by a code and change nothing (but THE TAPE, which is empty behind a FAULT, and what is told of that FAULT):", () -> {
            YawnRoute x = used();
            YawnRoute like = used();
            due("a fault", x.net(5), -32);
            due("a net that is read", like.net(12), 2);
            like.restore(0);
            due("the fault is told", x.fault(0), 2);
            due("its place", x.fault(1), 4);
            due("the tape is empty", x.count(7), like.count(7));
            due("what can be undone stays", x.count(6), 3);
            x.image(1);
            x.restore(1);
            String now = told(x).replace(" 2 4 ", " 0 -1 ");
            like.image(1);
            String ahead = told(like);
            due("it is " + now + ", not " + ahead + " (1: alike)", now.equals(ahead) ? 1 : 0, 1);
        });
        edge(2, "-5 it can't be now;", () -> {
            YawnRoute x = Check.of(ALONE);
            for (int i = 0; i < 45; i++) {
                x.feed(0x6e65743b, 0x20202020, 0x20202020, 0x20202020, 0x20202020);
            }
            String ahead = look(x);
            due("920", x.feed(0x6e65743b, 0, 0, 0, 0), -5);
            same("nothing is fed", x, ahead);
            due("net, and net again", x.net(900), -32);
            due("its place", x.fault(1), 20);
        });
        refused(3, -3, "net(-1)", x -> x.net(-1));
        refused(3, -3, "net(21)", x -> x.net(21));
    }

    private void refusedDeeds() {
        refused(8, -11, "pass(4)", x -> x.pass(4));
        refused(8, -12, "pass(0)", x -> x.pass(0));
        refused(8, -13, "pass(3)", x -> x.pass(3));
        refused(8, -14, "pass(2)", x -> x.pass(2));
        refused(8, -12, "pass(1), nowhere", x -> x.pass(1), usedNowhere(), usedNowhere());
        refused(9, -11, "off(4, 1)", x -> x.off(4, 1));
        refused(9, -11, "off(0, 0)", x -> x.off(0, 0));
        refused(9, -11, "off(0, 41)", x -> x.off(0, 41));
        refused(10, -11, "sleep(4)", x -> x.sleep(4));
        refused(11, -11, "dull(4, 1)", x -> x.dull(4, 1));
        refused(11, -11, "dull(0, 10)", x -> x.dull(0, 10));
        refused(12, -3, "undo(0)", x -> x.undo(0));
        refused(12, -3, "undo(4)", x -> x.undo(4));
        refused(13, -2, "judge(4, 0)", x -> x.judge(4, 0));
        refused(13, -2, "judge(GOOD, 4)", x -> x.judge(GOOD, 4));
        refused(13, -6, "judge(MISSING, 0)", x -> x.judge(MISSING, 0));
        refused(14, -2, "perform(4)", x -> x.perform(4));
        refused(14, -6, "perform(MISSING)", x -> x.perform(MISSING));
        refused(15, -3, "season(1, 0)", x -> x.season(1, 0));
        refused(15, -3, "season(1, 41)", x -> x.season(1, 41));
    }

    private void refusedQuestions() {
        refused(5, -2, "station(4, 0)", x -> x.station(4, 0));
        refused(5, -2, "station(0, 5)", x -> x.station(0, 5));
        refused(6, -2, "way(4, 0, 0)", x -> x.way(4, 0, 0));
        refused(6, -2, "way(0, 0, 0)", x -> x.way(0, 0, 0));
        refused(6, -2, "way(0, 1, 2)", x -> x.way(0, 1, 2));
        refused(7, -2, "brings(4)", x -> x.brings(4));
        refused(7, -5, "brings(3)", x -> x.brings(3));
        refused(24, -2, "spread(4, 0)", x -> x.spread(4, 0));
        refused(24, -3, "spread(0, 1000)", x -> x.spread(0, 1000));
        refused(28, -2, "meets(4, 0, 1)", x -> x.meets(4, 0, 1));
        refused(28, -3, "meets(0, 1, 41)", x -> x.meets(0, 1, 41));
        refused(34, -2, "forces(4)", x -> x.forces(4));
        refused(35, -2, "best(4)", x -> x.best(4));
        refused(36, -2, "chance(4, 1, 0)", x -> x.chance(4, 1, 0));
        refused(36, -2, "chance(0, 1, 2)", x -> x.chance(0, 1, 2));
        refused(36, -3, "chance(0, 7, 0)", x -> x.chance(0, 7, 0));
        refused(37, -3, "likeliest(7)", x -> x.likeliest(7));
    }

    private void refusedRoutes() {
        refused(16, -2, "soonest(4, 1)", x -> x.soonest(4, 1));
        refused(16, -3, "soonest(0, 41)", x -> x.soonest(0, 41));
        refused(17, -2, "soonBy(4, 1, 0)", x -> x.soonBy(4, 1, 0));
        refused(17, -3, "soonBy(0, 41, 0)", x -> x.soonBy(0, 41, 0));
        refused(17, -3, "soonBy(0, 1, -1)", x -> x.soonBy(0, 1, -1));
        refused(18, -2, "fewest(4, 1)", x -> x.fewest(4, 1));
        refused(18, -3, "fewest(0, 0)", x -> x.fewest(0, 0));
        refused(19, -2, "fewBy(4, 1, 0)", x -> x.fewBy(4, 1, 0));
        refused(19, -3, "fewBy(0, 0, 0)", x -> x.fewBy(0, 0, 0));
        refused(19, -3, "fewBy(0, 1, -1)", x -> x.fewBy(0, 1, -1));
        refused(20, -2, "biggest(4)", x -> x.biggest(4));
        refused(22, -2, "needed(4)", x -> x.needed(4));
        refused(23, -2, "sleepers(4, 0)", x -> x.sleepers(4, 0));
        refused(23, -2, "sleepers(0, 2)", x -> x.sleepers(0, 2));
        refused(29, -2, "back(1, 4, 1)", x -> x.back(1, 4, 1));
        refused(29, -3, "back(11, 0, 1)", x -> x.back(11, 0, 1));
        refused(29, -3, "back(1, 0, 41)", x -> x.back(1, 0, 41));
        refused(30, -2, "backBy(1, 4, 1, 0)", x -> x.backBy(1, 4, 1, 0));
        refused(30, -3, "backBy(0, 0, 1, 0)", x -> x.backBy(0, 0, 1, 0));
        refused(30, -3, "backBy(1, 0, 1, -1)", x -> x.backBy(1, 0, 1, -1));
        refused(31, -2, "surely(1, 4, 1)", x -> x.surely(1, 4, 1));
        refused(31, -3, "surely(0, 0, 1)", x -> x.surely(0, 0, 1));
    }

    private void refusedByNowhere() {
        nowhere(7, "brings", x -> x.brings(1));
        nowhere(16, "soonest", x -> x.soonest(1, 1));
        nowhere(17, "soonBy", x -> x.soonBy(1, 1, 0));
        nowhere(18, "fewest", x -> x.fewest(1, 1));
        nowhere(19, "fewBy", x -> x.fewBy(1, 1, 0));
        nowhere(20, "biggest", x -> x.biggest(1));
        nowhere(21, "reach", x -> x.reach());
        nowhere(22, "needed", x -> x.needed(1));
        nowhere(23, "sleepers", x -> x.sleepers(1, 0));
        nowhere(24, "spread", x -> x.spread(1, 0));
        nowhere(25, "rounds", x -> x.rounds());
        nowhere(26, "crowd", x -> x.crowd());
        nowhere(27, "stopper", x -> x.stopper());
        nowhere(29, "back", x -> x.back(1, 1, 1));
        nowhere(30, "backBy", x -> x.backBy(1, 1, 1, 0));
        nowhere(31, "surely", x -> x.surely(1, 1, 1));
        nowhere(32, "dulls", x -> x.dulls(GOOD, 1, 1));
        nowhere(33, "attempt", x -> x.attempt(GOOD, 1, 1));
        nowhere(34, "forces", x -> x.forces(1));
        nowhere(35, "best", x -> x.best(1));
        nowhere(36, "chance", x -> x.chance(1, 1, 0));
        nowhere(37, "likeliest", x -> x.likeliest(1));
        nowhere(40, "lists", x -> x.lists(GOOD, 1));
    }

    private void refusedTrays() {
        refused(32, -2, "dulls(4, 0, 1)", x -> x.dulls(4, 0, 1));
        refused(32, -2, "dulls(GOOD, 4, 1)", x -> x.dulls(GOOD, 4, 1));
        refused(32, -6, "dulls(MISSING, 0, 1)", x -> x.dulls(MISSING, 0, 1));
        refused(32, -4, "dulls(EMPTY, 0, 1)", x -> x.dulls(EMPTY, 0, 1));
        refused(32, -3, "dulls(WRONG, 0, 1)", x -> x.dulls(WRONG, 0, 1));
        refused(33, -2, "attempt(4, 0, 1)", x -> x.attempt(4, 0, 1));
        refused(33, -2, "attempt(GOOD, 4, 1)", x -> x.attempt(GOOD, 4, 1));
        refused(33, -6, "attempt(MISSING, 0, 1)", x -> x.attempt(MISSING, 0, 1));
        refused(33, -4, "attempt(EMPTY, 0, 1)", x -> x.attempt(EMPTY, 0, 1));
        refused(33, -3, "attempt(WRONG, 0, 1)", x -> x.attempt(WRONG, 0, 1));
        refused(38, -2, "numbers(4, 0, 1)", x -> x.numbers(4, 0, 1));
        refused(38, -2, "numbers(GOOD, 4, 1)", x -> x.numbers(GOOD, 4, 1));
        refused(38, -3, "numbers(GOOD, 0, 41)", x -> x.numbers(GOOD, 0, 41));
        refused(38, -3, "numbers(MISSING, 0, -1)", x -> x.numbers(MISSING, 0, -1));
        refused(39, -2, "write(4, 0, 1)", x -> x.write(4, 0, 1));
        refused(39, -6, "write(MISSING, 0, 1)", x -> x.write(MISSING, 0, 1));
        refused(39, -7, "write(GOOD, 2, 1)", x -> x.write(GOOD, 2, 1));
        refused(39, -7, "write(EMPTY, 0, 1)", x -> x.write(EMPTY, 0, 1));
        refused(40, -2, "lists(4, 0)", x -> x.lists(4, 0));
        refused(40, -2, "lists(GOOD, 4)", x -> x.lists(GOOD, 4));
        refused(40, -6, "lists(MISSING, 1)", x -> x.lists(MISSING, 1));
        refused(40, -5, "lists(GOOD, 3)", x -> x.lists(GOOD, 3));
        refused(41, -2, "image(2)", x -> x.image(2));
        refused(42, -2, "restore(2)", x -> x.restore(2));
        refused(42, -5, "restore(1)", x -> x.restore(1));
    }

    /** Two stations, a way from 0 to 1, the yawn nowhere; of the trays only GOOD tells a route. */
    private static YawnRoute lost() {
        return withTrays("net;station;station;way 0 1;");
    }

    /** As lost(), but the yawn is at 1, from where it can't come anywhere. */
    private static YawnRoute stuck() {
        return withTrays("net;station;station;way 0 1;at 1 size 5;");
    }

    private static YawnRoute withTrays(String text) {
        YawnRoute x = Check.of(text);
        Check.tray(x, EMPTY);
        Check.tray(x, WRONG, 2);
        Check.tray(x, GOOD, 1);
        return x;
    }

    private void orderOfNet() {
        edge(3, ORDER, () -> {
            YawnRoute x = new YawnRoute();
            due("n, ahead of a fault", x.net(1), -3);
            due("a fault", x.net(0), -32);
        });
        edge(5, ORDER, () -> due("station, what", lost().station(2, 9), -2));
        edge(6, ORDER, () -> {
            YawnRoute x = lost();
            due("a station, both one, what", x.way(2, 2, 9), -2);
            due("both one, ahead of NONE", x.way(0, 0, 0), -2);
            due("what, ahead of NONE", x.way(1, 0, 2), -2);
            due("NONE", x.way(1, 0, 1), NONE);
        });
        edge(7, ORDER, () -> {
            due("station, nowhere", lost().brings(2), -2);
            due("nowhere", lost().brings(1), -5);
        });
    }

    private void orderOfDeeds() {
        edge(9, ORDER, () -> due("a station, a size", lost().off(2, 0), -11));
        edge(11, ORDER, () -> due("a station, a dullness", lost().dull(2, 10), -11));
        edge(13, ORDER, () -> {
            YawnRoute x = lost();
            due("tray, what", x.judge(4, 4), -2);
            due("what, missing", x.judge(MISSING, 4), -2);
            due("missing, ahead of NONE", x.judge(MISSING, 0), -6);
            due("NONE", x.judge(EMPTY, 0), NONE);
        });
        edge(14, ORDER, () -> {
            due("tray", lost().perform(4), -2);
            due("missing", lost().perform(MISSING), -6);
        });
    }

    private void orderOfRoutes() {
        edge(16, ORDER, () -> {
            due("station, size, nowhere", lost().soonest(2, 41), -2);
            due("size, nowhere", lost().soonest(1, 41), -3);
            due("nowhere", lost().soonest(1, 40), -5);
            due("size, ahead of NONE", stuck().soonest(0, 41), -3);
            due("NONE", stuck().soonest(0, 40), NONE);
        });
        edge(17, ORDER, () -> {
            due("station, size, i, nowhere", lost().soonBy(2, 41, -1), -2);
            due("size, i, nowhere", lost().soonBy(1, 41, -1), -3);
            due("i, nowhere", lost().soonBy(1, 40, -1), -3);
            due("nowhere", lost().soonBy(1, 40, 0), -5);
            due("i, ahead of NONE", stuck().soonBy(0, 1, -1), -3);
            due("NONE", stuck().soonBy(0, 1, 0), NONE);
        });
        edge(18, ORDER, () -> {
            due("station, size, nowhere", lost().fewest(2, 0), -2);
            due("size, nowhere", lost().fewest(1, 0), -3);
            due("nowhere", lost().fewest(1, 40), -5);
            due("size, ahead of NONE", stuck().fewest(0, 0), -3);
            due("NONE", stuck().fewest(0, 1), NONE);
        });
        edge(19, ORDER, () -> {
            due("station, size, i, nowhere", lost().fewBy(2, 0, -1), -2);
            due("size, i, nowhere", lost().fewBy(1, 0, -1), -3);
            due("i, nowhere", lost().fewBy(1, 40, -1), -3);
            due("nowhere", lost().fewBy(1, 40, 0), -5);
            due("i, ahead of NONE", stuck().fewBy(0, 1, -1), -3);
            due("NONE", stuck().fewBy(0, 1, 0), NONE);
        });
        edge(20, ORDER, () -> {
            due("station, nowhere", lost().biggest(2), -2);
            due("nowhere", lost().biggest(1), -5);
            due("NONE", stuck().biggest(0), NONE);
        });
        edge(22, ORDER, () -> {
            due("station, nowhere", lost().needed(2), -2);
            due("nowhere", lost().needed(1), -5);
        });
        edge(23, ORDER, () -> {
            due("station, what, nowhere", lost().sleepers(2, 2), -2);
            due("what, nowhere", lost().sleepers(1, 2), -2);
            due("nowhere", lost().sleepers(1, 1), -5);
            due("what, ahead of NONE", stuck().sleepers(1, 2), -2);
            due("NONE", stuck().sleepers(1, 1), NONE);
        });
    }

    private void orderOfSpreading() {
        edge(24, ORDER, () -> {
            due("station, n, nowhere", lost().spread(2, 1000), -2);
            due("n, nowhere", lost().spread(1, 1000), -3);
            due("nowhere", lost().spread(1, 999), -5);
        });
        edge(27, ORDER, () -> due("nowhere, ahead of NONE", Check.of("net;").stopper(), -5));
        edge(28, ORDER, () -> {
            due("a station, size", lost().meets(2, 0, 41), -2);
            due("the other station, size", lost().meets(0, 2, 41), -2);
            due("size, ahead of NONE", Check.of(stations(2)).meets(0, 1, 0), -3);
            due("NONE", Check.of(stations(2)).meets(0, 1, 1), NONE);
        });
    }

    private void orderOfBack() {
        edge(29, ORDER, () -> {
            due("station, n, size, nowhere", lost().back(0, 2, 0), -2);
            due("n, nowhere", lost().back(0, 1, 1), -3);
            due("size, nowhere", lost().back(1, 1, 0), -3);
            due("nowhere", lost().back(1, 1, 1), -5);
        });
        edge(30, ORDER, () -> {
            due("station, n, size, nowhere, i", lost().backBy(0, 2, 0, -1), -2);
            due("n, nowhere, i", lost().backBy(0, 1, 1, -1), -3);
            due("size, nowhere, i", lost().backBy(1, 1, 0, -1), -3);
            due("nowhere, i", lost().backBy(1, 1, 1, -1), -5);
            due("i, ahead of NONE", stuck().backBy(1, 0, 1, -1), -3);
            due("NONE", stuck().backBy(1, 0, 1, 0), NONE);
        });
        edge(31, ORDER, () -> {
            due("station, n, size, nowhere", lost().surely(11, 2, 41), -2);
            due("n, nowhere", lost().surely(11, 1, 40), -3);
            due("size, nowhere", lost().surely(10, 1, 41), -3);
            due("nowhere", lost().surely(10, 1, 40), -5);
        });
    }

    private void orderOfTold() {
        for (int promise = 32; promise <= 33; promise++) {
            boolean tries = promise == 33;
            edge(promise, ORDER, () -> {
                YawnRoute x = lost();
                due("tray, station, size", told(x, tries, 4, 2, 41), -2);
                due("station, missing", told(x, tries, MISSING, 2, 41), -2);
                due("missing, size", told(x, tries, MISSING, 1, 41), -6);
                due("none told, size, nowhere", told(x, tries, EMPTY, 1, 41), -4);
                due("one is no station, nowhere", told(x, tries, WRONG, 1, 40), -3);
                due("size, nowhere", told(x, tries, GOOD, 1, 41), -3);
                due("nowhere", told(x, tries, GOOD, 1, 40), -5);
                x.numbers(WRONG, 0, 11);
                x.write(WRONG, 10, 9);
                due("eleven told, one is no station", told(x, tries, WRONG, 1, 41), -4);
            });
        }
        edge(33, ORDER, () -> {
            due("size, ahead of NONE", stuck().attempt(GOOD, 0, 0), -3);
            due("NONE", stuck().attempt(GOOD, 0, 1), NONE);
        });
    }

    private static int told(YawnRoute x, boolean tries, int tray, int s, int size) {
        return tries ? x.attempt(tray, s, size) : x.dulls(tray, s, size);
    }

    private void orderOfChances() {
        edge(34, ORDER, () -> {
            due("station, nowhere", lost().forces(2), -2);
            due("nowhere, ahead of NONE", lost().forces(1), -5);
            due("NONE", stuck().forces(0), NONE);
        });
        edge(35, ORDER, () -> {
            due("station, nowhere", lost().best(2), -2);
            due("nowhere, ahead of NONE", lost().best(1), -5);
            due("NONE", stuck().best(0), NONE);
        });
        edge(36, ORDER, () -> {
            due("station, what, n, nowhere", lost().chance(2, 7, 2), -2);
            due("what, n, nowhere", lost().chance(1, 7, 2), -2);
            due("n, nowhere", lost().chance(1, 7, 1), -3);
            due("nowhere", lost().chance(1, 6, 1), -5);
        });
        edge(37, ORDER, () -> {
            due("n, nowhere", lost().likeliest(7), -3);
            due("nowhere, ahead of NONE", lost().likeliest(6), -5);
        });
    }

    private void orderOfTrays() {
        edge(38, ORDER, () -> {
            YawnRoute x = lost();
            due("tray, sort, n", x.numbers(4, 4, 41), -2);
            due("sort, n", x.numbers(GOOD, 4, 41), -2);
            due("n", x.numbers(GOOD, 3, 41), -3);
        });
        edge(39, ORDER, () -> {
            YawnRoute x = lost();
            due("tray, i", x.write(4, 40, 1), -2);
            due("missing, i", x.write(MISSING, 40, 1), -6);
            due("i", x.write(EMPTY, 0, 1), -7);
        });
        edge(40, ORDER, () -> {
            due("tray, station", lost().lists(4, 2), -2);
            due("station, missing", lost().lists(MISSING, 2), -2);
            due("missing, nowhere", lost().lists(MISSING, 1), -6);
            due("nowhere", lost().lists(GOOD, 1), -5);
            due("there is none", stuck().lists(GOOD, 0), -5);
        });
        edge(42, ORDER, () -> {
            due("no such image", lost().restore(2), -2);
            due("none was made", lost().restore(1), -5);
        });
    }
}
