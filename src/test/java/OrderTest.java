/**
 * Of several refusals a call answers the one that its promise tells first, and each of them ahead of
 * NONE: here each call is refused for one reason and for all that its promise tells behind it.
 */
public final class OrderTest {
    private static final int MISSING = 0;
    private static final int EMPTY = 1;
    private static final int WRONG = 2;
    private static final int GOOD = 3;

    private static final Check check = new Check("OrderTest");

    public static void main(String[] args) {
        tapeAndNet();
        deeds();
        routes();
        spreading();
        back();
        told();
        chances();
        trays();
        check.end();
    }

    /** Two stations, a way from 0 to 1, the yawn nowhere; of the trays only GOOD tells a route. */
    private static YawnRoute nowhere() {
        return withTrays("net;station;station;way 0 1;");
    }

    /** As nowhere(), but the yawn is at 1, from where it can't come anywhere. */
    private static YawnRoute stuck() {
        return withTrays("net;station;station;way 0 1;at 1 size 5;");
    }

    private static YawnRoute withTrays(String text) {
        YawnRoute x = Check.of(text);
        Check.tray(x, EMPTY);
        Check.tray(x, WRONG, 2);
        Check.tray(x, GOOD, 1);
        return x;
    }

    private static void tapeAndNet() {
        YawnRoute x = nowhere();
        check.due("station, what", x.station(2, 9), -2);
        check.due("way, a station", x.way(2, 2, 9), -2);
        check.due("way, both one", x.way(0, 0, 9), -2);
        check.due("way, what, ahead of NONE", x.way(1, 0, 2), -2);
        check.due("way, NONE", x.way(1, 0, 1), -1);
        check.due("brings, station", x.brings(2), -2);
        check.due("brings, can't", x.brings(1), -5);
        check.due("net, n", x.net(1), -3);
        check.due("net, fault", x.net(0), -32);
    }

    private static void deeds() {
        YawnRoute x = Check.of("net;station;station asleep;way 0 1;takes:0=1;");
        check.due("pass, no station", x.pass(2), -11);
        check.due("pass, nowhere", x.pass(1), -12);
        x.off(1, 1);
        check.due("pass, no way", x.pass(1), -12);
        x.off(0, 1);
        check.due("pass, asleep", x.pass(1), -13);
        x.sleep(1);
        check.due("pass, the law", x.pass(1), -14);
        YawnRoute y = nowhere();
        check.due("judge, tray", y.judge(4, 4), -2);
        check.due("judge, what", y.judge(MISSING, 4), -2);
        check.due("judge, missing", y.judge(MISSING, 0), -6);
        check.due("perform, tray", y.perform(4), -2);
        check.due("perform, missing", y.perform(MISSING), -6);
    }

    private static void routes() {
        YawnRoute x = nowhere();
        check.due("soonest, station", x.soonest(2, 41), -2);
        check.due("soonest, size", x.soonest(1, 41), -3);
        check.due("soonest, nowhere", x.soonest(1, 40), -5);
        check.due("soonBy, station", x.soonBy(2, 41, -1), -2);
        check.due("soonBy, size", x.soonBy(1, 41, -1), -3);
        check.due("soonBy, i", x.soonBy(1, 40, -1), -3);
        check.due("soonBy, nowhere", x.soonBy(1, 40, 0), -5);
        check.due("fewest, station", x.fewest(2, 0), -2);
        check.due("fewest, size", x.fewest(1, 0), -3);
        check.due("fewest, nowhere", x.fewest(1, 40), -5);
        check.due("fewBy, station", x.fewBy(2, 0, -1), -2);
        check.due("fewBy, size", x.fewBy(1, 0, -1), -3);
        check.due("fewBy, i", x.fewBy(1, 40, -1), -3);
        check.due("fewBy, nowhere", x.fewBy(1, 40, 0), -5);
        check.due("biggest, station", x.biggest(2), -2);
        check.due("biggest, nowhere", x.biggest(1), -5);
        check.due("reach, nowhere", x.reach(), -5);
        check.due("needed, station", x.needed(2), -2);
        check.due("needed, nowhere", x.needed(1), -5);
        check.due("sleepers, station", x.sleepers(2, 2), -2);
        check.due("sleepers, what", x.sleepers(1, 2), -2);
        check.due("sleepers, nowhere", x.sleepers(1, 1), -5);
        YawnRoute y = stuck();
        check.due("soonBy, i, ahead of NONE", y.soonBy(0, 1, -1), -3);
        check.due("soonBy, NONE", y.soonBy(0, 1, 0), -1);
        check.due("fewBy, i, ahead of NONE", y.fewBy(0, 1, -1), -3);
        check.due("fewBy, NONE", y.fewBy(0, 1, 0), -1);
        check.due("sleepers, what, ahead of NONE", y.sleepers(1, 2), -2);
        check.due("sleepers, NONE", y.sleepers(1, 1), -1);
    }

    private static void spreading() {
        YawnRoute x = nowhere();
        check.due("spread, station", x.spread(2, 1000), -2);
        check.due("spread, n", x.spread(1, 1000), -3);
        check.due("spread, nowhere", x.spread(1, 999), -5);
        check.due("rounds, nowhere", x.rounds(), -5);
        check.due("crowd, nowhere", x.crowd(), -5);
        check.due("stopper, nowhere, ahead of NONE", Check.of("net;").stopper(), -5);
        check.due("meets, station", x.meets(2, 2, 41), -2);
        check.due("meets, the other station", x.meets(0, 2, 41), -2);
        check.due("meets, size", x.meets(0, 0, 41), -3);
    }

    private static void back() {
        YawnRoute x = nowhere();
        check.due("back, station", x.back(0, 2, 0), -2);
        check.due("back, n", x.back(0, 1, 0), -3);
        check.due("back, size", x.back(1, 1, 0), -3);
        check.due("back, nowhere", x.back(1, 1, 1), -5);
        check.due("backBy, station", x.backBy(0, 2, 0, -1), -2);
        check.due("backBy, n", x.backBy(0, 1, 0, -1), -3);
        check.due("backBy, size", x.backBy(1, 1, 0, -1), -3);
        check.due("backBy, nowhere", x.backBy(1, 1, 1, -1), -5);
        check.due("backBy, i, ahead of NONE", stuck().backBy(1, 0, 1, -1), -3);
        check.due("backBy, NONE", stuck().backBy(1, 0, 1, 0), -1);
        check.due("surely, station", x.surely(11, 2, 41), -2);
        check.due("surely, n", x.surely(11, 1, 41), -3);
        check.due("surely, size", x.surely(10, 1, 41), -3);
        check.due("surely, nowhere", x.surely(10, 1, 40), -5);
    }

    private static void told() {
        YawnRoute x = nowhere();
        for (boolean tries : new boolean[] {false, true}) {
            String call = tries ? "attempt, " : "dulls, ";
            check.due(call + "tray", told(x, tries, 4, 2, 41), -2);
            check.due(call + "station", told(x, tries, MISSING, 2, 41), -2);
            check.due(call + "missing", told(x, tries, MISSING, 1, 41), -6);
            check.due(call + "too few", told(x, tries, EMPTY, 1, 41), -4);
            check.due(call + "no station told", told(x, tries, WRONG, 1, 40), -3);
            check.due(call + "size", told(x, tries, GOOD, 1, 41), -3);
            check.due(call + "nowhere", told(x, tries, GOOD, 1, 40), -5);
            x.numbers(WRONG, 0, 11);
            x.write(WRONG, 10, 9);
            check.due(call + "too many", told(x, tries, WRONG, 1, 41), -4);
            Check.tray(x, WRONG, 2);
        }
        check.due("attempt, size, ahead of NONE", stuck().attempt(GOOD, 0, 0), -3);
        check.due("attempt, NONE", stuck().attempt(GOOD, 0, 1), -1);
    }

    private static int told(YawnRoute x, boolean tries, int tray, int s, int size) {
        return tries ? x.attempt(tray, s, size) : x.dulls(tray, s, size);
    }

    private static void chances() {
        YawnRoute x = nowhere();
        check.due("forces, station", x.forces(2), -2);
        check.due("forces, nowhere, ahead of NONE", x.forces(1), -5);
        check.due("best, station", x.best(2), -2);
        check.due("best, nowhere, ahead of NONE", x.best(1), -5);
        check.due("chance, station", x.chance(2, 7, 2), -2);
        check.due("chance, what", x.chance(1, 7, 2), -2);
        check.due("chance, n", x.chance(1, 7, 1), -3);
        check.due("chance, nowhere", x.chance(1, 6, 1), -5);
        check.due("likeliest, n", x.likeliest(7), -3);
        check.due("likeliest, nowhere, ahead of NONE", x.likeliest(6), -5);
    }

    private static void trays() {
        YawnRoute x = nowhere();
        check.due("numbers, tray", x.numbers(4, 4, 41), -2);
        check.due("numbers, sort", x.numbers(GOOD, 4, 41), -2);
        check.due("numbers, n", x.numbers(GOOD, 3, 41), -3);
        check.due("write, tray", x.write(4, 40, 1), -2);
        check.due("write, missing", x.write(MISSING, 40, 1), -6);
        check.due("write, no such number", x.write(EMPTY, 0, 1), -7);
        check.due("lists, tray", x.lists(4, 2), -2);
        check.due("lists, station", x.lists(MISSING, 2), -2);
        check.due("lists, missing", x.lists(MISSING, 1), -6);
        check.due("lists, nowhere", x.lists(GOOD, 1), -5);
        check.due("lists, there is none", stuck().lists(GOOD, 0), -5);
        check.due("image", x.image(2), -2);
        check.due("restore, no such image", x.restore(2), -2);
        check.due("restore, none was made", x.restore(1), -5);
    }
}
