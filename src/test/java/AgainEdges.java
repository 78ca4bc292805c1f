/**
 * What was asked, done or read ahead counts for nothing but what it left: an object with a past answers
 * as one without. Each promise is asked for all its stations and the sizes at both ends.
 */
final class AgainEdges extends EdgePart {
    /** As dull as the other one, as what is kept of a passing hangs on the dullness of that which takes. */
    private static final String OTHER = "net;station dull 1 kind 3;station dull 2 kind 2;station dull 3 kind 5;station dull 4;"
        + "station dull 5 kind 4;station dull 6;station dull 7;"
        + ways("01 12 23 34 45 56 60 10 21 32 43 54 65 06 03 30") + "at 6 size 3;takes:kind<9;passes:size+kind+1;";
    /** Told with how dull each of seven stations is. */
    private static final String LAWS = "takes:size+3>dull or kind=2;passes:if dull<4 then size+1 else size+5-dull end;";

    AgainEdges(Edges edges) {
        super(edges);
    }

    @Override
    void all() {
        again(7, "The SIZE it would have by PASSING to a STATION now");
        again(16, "COMING SOONEST to a STATION with a SIZE (1 to 40) at least: how many HOURS.");
        again(17, "The i-th STATION of it.");
        again(18, "By the fewest PASSINGS: how many.");
        again(19, "The i-th STATION of it.");
        again(20, "The greatest SIZE with which it can come to a STATION.");
        again(21, "STATIONS to which it can come (where it is, too), as bits.");
        again(22, "Other STATIONS (not where it is, not that one) without each of which (asleep)");
        again(23, "SLEEPERS, what 0: how many, 1: which, as bits.");
        again(24, "SPREADING: the SIZE a STATION has behind n ROUNDS");
        again(25, "In how many ROUNDS it ends");
        again(26, "Who has it in the end, as bits.");
        again(27, "by the sleep of which fewest have it in the end");
        again(28, "MEETING: the ROUND.");
        again(29, "BACK: how many ROUTES.");
        again(30, "The i-th STATION of the first of these.");
        again(31, "STATIONS to which it came in all of these, as bits");
        again(32, "TOLD: DULL, as bits.");
        again(33, "From which STATION, being there with that SIZE");
        again(34, "FORCING: within how many turns, at fewest");
        again(35, "The first STATION to which he PASSES it by which he does within as few");
        again(36, "CHANCE, what 0: the number above, 1: below.");
        again(37, "The STATION at which it is likeliest then, the first.");
        again(40, "STATIONS of COMING SOONEST to a STATION with any SIZE come into a TRAY");
    }

    private static String net(int... dull) {
        StringBuilder b = new StringBuilder("net;");
        for (int s = 0; s < 7; s++) {
            b.append("station dull ").append(dull[s]).append(s == 2 ? " kind 2;" : ";");
        }
        return b.append("way 0 1 hours 3 odds 4;way 1 2 odds 6;way 2 0 hours 2;way 2 3 odds 3;")
            .append("way 3 4 hours 9;way 4 5;way 5 6;way 3 6 hours 9;").append(ways("60 40 05")).append("at 0 size 4;").append(LAWS).toString();
    }

    private void again(int promise, String sentence) {
        edge(promise, sentence, () -> {
            YawnRoute x = Check.of(OTHER);
            Check.tray(x, 0, 1, 2, 0);
            asked(promise, x);
            due("an image", x.image(1), 0);
            Check.read(x, net(1, 2, 3, 4, 5, 6, 7));
            alike("another net", promise, x, Check.of(net(1, 2, 3, 4, 5, 6, 7)));
        });
        for (int s = 0; s < 7; s++) {
            int changed = s;
            edge(promise, sentence, () -> {
                int[] dull = {1, 2, 3, 4, 5, 6, 7};
                YawnRoute x = Check.of(net(dull));
                Check.tray(x, 0, 1, 2, 0);
                asked(promise, x);
                x.dull(changed, 9 - dull[changed]);
                dull[changed] = 9 - dull[changed];
                alike("station " + changed + " is as dull as another one", promise, x, Check.of(net(dull)));
            });
        }
        edge(promise, sentence, () -> {
            YawnRoute x = Check.of(net(1, 2, 3, 4, 5, 6, 7));
            Check.tray(x, 0, 1, 2, 0);
            x.image(0);
            Check.tray(x, 1, 109, 118, 127, 136, 145, 154, 163, 1340, 16);
            x.perform(1);
            asked(promise, x);
            x.undo(1);
            alike("undone", promise, x, Check.of(net(1, 2, 3, 4, 5, 6, 7)));
        });
        edge(promise, sentence, () -> {
            YawnRoute x = Check.of(net(1, 2, 3, 4, 5, 6, 7));
            x.image(0);
            Check.read(x, OTHER);
            Check.tray(x, 0, 1, 2, 0);
            asked(promise, x);
            x.restore(0);
            alike("restored", promise, x, Check.of(net(1, 2, 3, 4, 5, 6, 7)));
        });
    }

    private void alike(String what, int promise, YawnRoute x, YawnRoute fresh) {
        Check.tray(fresh, 0, 1, 2, 0);
        String now = asked(promise, x);
        String due = asked(promise, fresh);
        due(what + ": " + now + ", due is " + due + " (1: alike)", now.equals(due) ? 1 : 0, 1);
    }

    private static String asked(int promise, YawnRoute x) {
        StringBuilder b = new StringBuilder();
        for (int s = 0; s < 7; s++) {
            for (int size : new int[] {1, 4, 5, 7, 40}) {
                long answer = promise < 24 ? routes(promise, x, s, size) : promise < 32 ? rounds(promise, x, s, size)
                    : told(promise, x, s, size);
                b.append(answer).append(' ');
            }
        }
        return b.toString();
    }

    private static long routes(int promise, YawnRoute x, int s, int size) {
        switch (promise) {
            case 7: return x.brings(s);
            case 16: return x.soonest(s, size);
            case 17: return 100 * x.soonBy(s, size, 1) + x.soonBy(s, size, 4);
            case 18: return x.fewest(s, size);
            case 19: return 100 * x.fewBy(s, size, 1) + x.fewBy(s, size, 4);
            case 20: return x.biggest(s);
            case 21: return x.reach();
            case 22: return x.needed(s);
            default: return x.sleepers(s, 1);
        }
    }

    private static long rounds(int promise, YawnRoute x, int s, int size) {
        switch (promise) {
            case 24: return x.spread(s, size);
            case 25: return x.rounds();
            case 26: return x.crowd();
            case 27: return x.stopper();
            case 28: return x.meets(s, (s + 2) % 7, size);
            case 29: return x.back(1 + size % 10, s, size);
            case 30: return x.backBy(1 + size % 10, s, size, 1);
            default: return x.surely(1 + size % 10, s, size);
        }
    }

    private static long told(int promise, YawnRoute x, int s, int size) {
        switch (promise) {
            case 32: return x.dulls(0, s, size);
            case 33: return x.attempt(0, s, size);
            case 34: return x.forces(s);
            case 35: return x.best(s);
            case 36: return x.chance(s, size % 7, 0);
            case 37: return x.likeliest(size % 7);
            default:
                x.numbers(1, 0, 5);
                return x.lists(1, s) * 1000 + x.judge(1, 0) * 100 + x.judge(1, 2) * 10 + x.judge(1, 3);
        }
    }
}
