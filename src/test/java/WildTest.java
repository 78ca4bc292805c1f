import java.util.Random;

/** Arguments without sense in all kinds of states: each call answers, and refused ones change nothing. */
public final class WildTest {
    private static final int[] EDGES = {Integer.MIN_VALUE, Integer.MAX_VALUE, -1, 0, 1, 2, 3, 4, 5, 6, 7, 8, 9, 10,
        11, 39, 40, 41, 42, 99, 100, 999, 1000, 1 << 30, 1 << 31, -2, -7, 0x7fffffff, 31, 32, 33, 63, 64};
    private static final int CALLS = 42;
    private static final Check check = new Check("WildTest");
    private static final Random random = new Random(43);

    public static void main(String[] args) {
        for (int i = 0; i < 300; i++) {
            run();
        }
        deepTexts();
        check.end();
    }

    private static int any() {
        return random.nextInt(6) == 0 ? random.nextInt() : EDGES[random.nextInt(EDGES.length)];
    }

    private static void run() {
        YawnRoute x = new YawnRoute();
        RandomTexts texts = new RandomTexts(random);
        for (int i = 0; i < 512; i++) {
            int call = random.nextInt(CALLS + 3);
            if (call >= CALLS) {
                String text = texts.text();
                int n = (text.length() + 19) / 20 + 1;
                if (i + n < 512) {
                    Check.read(x, text);
                    i += n;
                }
                continue;
            }
            String ahead = look(x);
            long got = called(x, call);
            if (got < -1 && !(call == 1 && got < -30) && call != 39) {
                check.holds("call " + call + " is refused by " + got + " and changes nothing", look(x).equals(ahead));
            }
            check.holds("call " + call + " answers by a known code, not " + got, got >= -7 || call == 1 && got >= -34
                && got <= -31 || call >= 6 && call <= 9 && got >= -14 && got <= -11 || call == 38);
        }
    }

    /** These calls are more than 512 in all: what is told of an object stays so all the same. */
    private static String look(YawnRoute x) {
        StringBuilder b = new StringBuilder();
        for (int what = 0; what < 9; what++) {
            b.append(x.count(what)).append(' ');
        }
        for (int s = 0; s < 7; s++) {
            b.append(x.station(s, 0)).append(' ').append(x.station(s, 1)).append(' ');
        }
        return b.append(x.fault(0)).append(' ').append(x.fault(1)).toString();
    }

    private static long called(YawnRoute x, int call) {
        int a = any();
        int b = any();
        int c = any();
        int d = any();
        switch (call) {
            case 0: return x.feed(a, b, c, d, any());
            case 1: return x.net(a);
            case 2: return x.fault(a);
            case 3: return x.station(a, b);
            case 4: return x.way(a, b, c);
            case 5: return x.brings(a);
            case 6: return x.pass(a);
            case 7: return x.off(a, b);
            case 8: return x.sleep(a);
            case 9: return x.dull(a, b);
            case 10: return x.undo(a);
            case 11: return x.judge(a, b);
            case 12: return x.perform(a);
            case 13: return x.season(a, b);
            case 14: return x.soonest(a, b);
            case 15: return x.soonBy(a, b, c);
            case 16: return x.fewest(a, b);
            case 17: return x.fewBy(a, b, c);
            case 18: return x.biggest(a);
            case 19: return x.reach();
            case 20: return x.needed(a);
            default: return calledFurther(x, call, a, b, c, d);
        }
    }

    private static long calledFurther(YawnRoute x, int call, int a, int b, int c, int d) {
        switch (call) {
            case 21: return x.sleepers(a, b);
            case 22: return x.spread(a, b);
            case 23: return x.rounds();
            case 24: return x.crowd();
            case 25: return x.stopper();
            case 26: return x.meets(a, b, c);
            case 27: return x.back(a, b, c);
            case 28: return x.backBy(a, b, c, d);
            case 29: return x.surely(a, b, c);
            case 30: return x.dulls(a, b, c);
            case 31: return x.attempt(a, b, c);
            case 32: return x.forces(a);
            case 33: return x.best(a);
            case 34: return x.chance(a, b, c);
            case 35: return x.likeliest(a);
            case 36: return x.numbers(a, b, c);
            case 37: return x.lists(a, b);
            case 38: return x.write(a, b, random.nextBoolean() ? c : random.nextLong());
            case 39: return x.image(a);
            case 40: return x.restore(a);
            default: return x.count(a);
        }
    }

    /** The longest laws that a text can hold, deep and wide. */
    private static void deepTexts() {
        String[] starts = {"takes:", "passes:", "takes:not ", "takes:[", "passes:(", "passes:if ", "takes:1=1 and ", "passes:1+"};
        String[] parts = {"(", "[", "not ", "if ", "1+", "1*", "1=1 or ", "size", "if 1=1 then 1 else 1 end", "station;", ";", "1"};
        for (String start : starts) {
            for (String part : parts) {
                YawnRoute x = new YawnRoute();
                StringBuilder b = new StringBuilder("net;station;station;way 0 1;at 0 size 9;").append(start);
                while (b.length() + part.length() <= 900) {
                    b.append(part);
                }
                int got = Check.read(x, b.toString());
                check.holds(start + part + ".. has a fault", got <= -31 && got >= -34);
            }
        }
        StringBuilder b = new StringBuilder("net;station;station;way 0 1;at 0 size 9;passes:1");
        while (b.length() < 898) {
            b.append("+0");
        }
        YawnRoute x = Check.of(b.append(";").toString());
        check.due("a law as long as can be", x.brings(1), 1);
        String deep = "net;station;station;way 0 1;at 0 size 9;takes:1=2 or 1=1 and not [1=1 and 1=1 and not [1=2 or 1=1 "
            + "and 0-1+2*(1+1*(1+1))=5]] or 1=2;";
        check.due("deep and wide", Check.of(deep).brings(1), 9);
    }
}
