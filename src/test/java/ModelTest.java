import java.lang.reflect.Method;
import java.util.ArrayList;
import java.util.LinkedHashMap;
import java.util.List;
import java.util.Map;
import java.util.Random;
import java.util.TreeMap;

/** Calls by chance on the class and on the model beside it: their answers are the same. */
public final class ModelTest {
    /** By call, what each argument is, and how often it comes. */
    private static final String[] CALLS = {
        "fault w 1", "station sw 3", "way ssw 3", "brings s 3", "pass s 12", "off sz 5",
        "sleep s 2", "dull sd 4", "undo u 3", "judge tw 3", "perform t 3", "season ST 3",
        "soonest sz 4", "soonBy szi 4", "fewest sz 4", "fewBy szi 4", "biggest s 3", "reach - 2",
        "needed s 3", "sleepers sw 3", "spread sn 3", "rounds - 2", "crowd - 2", "stopper - 3",
        "meets ssz 3", "back bsz 4", "backBy bszi 4", "surely bsz 4", "dulls tsz 4",
        "attempt tsz 4", "forces s 3", "best s 3", "chance scw 4", "likeliest c 3",
        "numbers tkm 1", "write tiv 3", "lists ts 3", "image I 1", "restore I 1", "count w 4"};

    private final Random random;
    private final RandomTexts texts;
    private final List<String> often = new ArrayList<>();
    private final Map<String, Method> ofClass = new LinkedHashMap<>();
    private final Map<String, Method> ofModel = new LinkedHashMap<>();
    private final Map<String, Map<Long, Integer>> seen = new TreeMap<>();
    private YawnRoute x;
    private Model model;
    private List<String> run;
    private int calls;
    private int compared;
    private int wrong;

    private ModelTest(long seed) {
        random = new Random(seed);
        texts = new RandomTexts(random);
        for (String call : CALLS) {
            for (int i = Integer.parseInt(call.split(" ")[2]); i > 0; i--) {
                often.add(call);
            }
        }
        for (Method m : YawnRoute.class.getDeclaredMethods()) {
            if (java.lang.reflect.Modifier.isPublic(m.getModifiers())) {
                ofClass.put(m.getName(), m);
            }
        }
        for (Method m : Model.class.getDeclaredMethods()) {
            if (ofClass.containsKey(m.getName()) && !java.lang.reflect.Modifier.isPrivate(m.getModifiers())) {
                m.setAccessible(true);
                ofModel.put(m.getName(), m);
            }
        }
    }

    public static void main(String[] args) throws Exception {
        int runs = args.length > 0 ? Integer.parseInt(args[0]) : 3000;
        ModelTest test = new ModelTest(args.length > 1 ? Long.parseLong(args[1]) : 20261119);
        for (int i = 0; i < runs && test.wrong == 0; i++) {
            test.oneRun();
        }
        System.out.println("ModelTest: " + test.compared + " answers compared");
        if (test.wrong > 0) {
            System.exit(1);
        }
        test.lookAtWhatWasSeen();
    }

    private void oneRun() throws Exception {
        x = new YawnRoute();
        model = new Model();
        run = new ArrayList<>();
        calls = 0;
        while (calls < 512 && wrong == 0 && random.nextInt(12) > 0) {
            text();
            for (int i = random.nextInt(60); i > 0 && calls < 512 && wrong == 0; i--) {
                chosen(often.get(random.nextInt(often.size())).split(" "));
            }
        }
    }

    private void text() throws Exception {
        String text = texts.text();
        int[] all = Check.fours(text);
        for (int i = 0; i < all.length && calls < 512; i += 5) {
            both("feed", all[i], all[i + 1], all[i + 2], all[i + 3], all[i + 4]);
        }
        both("net", random.nextInt(30) == 0 ? random.nextInt(all.length * 4 + 2) : text.length());
        both("fault", 0);
        both("fault", 1);
    }

    /** A tray's numbers are of use to few calls if they come by chance: here they fit one. */
    private void fillTray(int tray, boolean deeds) throws Exception {
        int n = random.nextInt(deeds ? 12 : 6) + (deeds ? 0 : 1);
        both("numbers", tray, deeds ? 1 + random.nextInt(3) : random.nextInt(4), n);
        for (int i = 0; i < n; i++) {
            both("write", tray, i, deeds ? deed() : (long) station());
        }
    }

    /** Questions about places to which no route leads have but one answer: here one leads there. */
    private boolean along(String name) throws Exception {
        List<int[]> walk = model.walk(1 + random.nextInt(random.nextInt(3) == 0 ? 10 : 4), random);
        if (walk.isEmpty()) {
            return false;
        }
        int[] end = walk.get(walk.size() - 1);
        if (name.equals("pass")) {
            both(name, walk.get(0)[0]);
        } else if (name.equals("back") || name.equals("surely")) {
            both(name, walk.size(), end[0], end[1]);
        } else if (name.equals("backBy")) {
            both(name, walk.size(), end[0], end[1], random.nextInt(walk.size() + 1));
        } else if (name.equals("soonest") || name.equals("fewest")) {
            both(name, end[0], end[1]);
        } else if (name.equals("soonBy") || name.equals("fewBy")) {
            both(name, end[0], end[1], random.nextInt(walk.size() + 1));
        } else if (name.equals("dulls") || name.equals("attempt")) {
            int tray = random.nextInt(4);
            both("numbers", tray, random.nextInt(4), walk.size());
            for (int i = 0; i < walk.size(); i++) {
                both("write", tray, i, (long) walk.get(i)[0]);
            }
            both(name, tray, walk.get(random.nextInt(walk.size()))[0], end[1]);
        } else {
            return false;
        }
        return true;
    }

    private void chosen(String[] call) throws Exception {
        if (random.nextInt(4) > 0 && along(call[0])) {
            return;
        }
        boolean told = call[0].equals("dulls") || call[0].equals("attempt");
        boolean deeds = call[0].equals("judge") || call[0].equals("perform");
        int tray = random.nextInt(8) == 0 ? random.nextInt(6) - 1 : random.nextInt(4);
        if ((told || deeds) && random.nextInt(4) > 0 && tray >= 0 && tray < 4) {
            fillTray(tray, deeds);
        }
        String kinds = call[1].equals("-") ? "" : call[1];
        Object[] args = new Object[kinds.length()];
        for (int i = 0; i < args.length; i++) {
            args[i] = kinds.charAt(i) == 't' ? (Object) tray : argument(kinds.charAt(i));
        }
        both(call[0], args);
    }

    private int station() {
        int stations = Math.max(1, model.count(0));
        return random.nextInt(12) == 0 ? random.nextInt(9) - 1 : random.nextInt(stations);
    }

    private int size() {
        int n = random.nextInt(10);
        return n == 0 ? random.nextInt(44) - 1 : n < 4 ? Math.max(1, model.count(3)) : 1 + random.nextInt(n < 7 ? 40 : 10);
    }

    private long deed() {
        switch (random.nextInt(9)) {
            case 0: return 10 + station();
            case 1: return 100 + 10 * station() + random.nextInt(10);
            case 2: return 1000 + 100 * station() + size();
            case 3: return random.nextInt(3) == 0 ? random.nextInt(2200) - 50 : station();
            default: return station();
        }
    }

    private long number() {
        int n = random.nextInt(4);
        return n == 0 ? random.nextLong() : n == 1 ? deed() : station();
    }

    private Object argument(char kind) {
        boolean wild = random.nextInt(60) == 0;
        switch (kind) {
            case 's': return station();
            case 'z': return size();
            case 'i': return wild ? random.nextInt() : random.nextInt(8) - (random.nextInt(5) == 0 ? 1 : 0);
            case 'w': return wild ? random.nextInt(12) - 2 : random.nextInt(9) < 6 ? random.nextInt(2) : random.nextInt(9);
            case 'd': return random.nextInt(10) == 0 ? random.nextInt(14) - 2 : random.nextInt(10);
            case 'u': return wild ? random.nextInt(14) - 1 : random.nextInt(3) + 1;
            case 'S': return random.nextInt();
            case 'T': return wild ? random.nextInt(44) - 1 : 1 + random.nextInt(8);
            case 'n': return wild ? random.nextInt(1010) - 5 : random.nextInt(12);
            case 'b': return wild ? random.nextInt(14) - 1 : 1 + random.nextInt(model.count(1) > 14 ? 5 : 7);
            case 'c': return wild ? random.nextInt(9) - 1 : random.nextInt(7);
            case 'k': return wild ? random.nextInt(6) - 1 : random.nextInt(4);
            case 'm': return wild ? random.nextInt(44) - 1 : random.nextInt(12);
            case 'v': return number();
            case 'I': return random.nextInt(8) == 0 ? random.nextInt(4) - 1 : random.nextInt(2);
            default: throw new IllegalArgumentException("" + kind);
        }
    }

    /** A count of routes that would be tried out one by one for too long is let alone. */
    private boolean isTooLong(String name, Object... args) {
        return name.matches("back|backBy|surely") && (int) args[0] > 6 && model.count(1) > 14;
    }

    private void both(String name, Object... args) throws Exception {
        if (calls >= 512 || wrong > 0 || isTooLong(name, args)) {
            return;
        }
        calls++;
        compared++;
        StringBuilder call = new StringBuilder(name).append("(");
        for (int i = 0; i < args.length; i++) {
            call.append(i > 0 ? ", " : "").append(args[i]);
        }
        run.add(call.append(")").toString());
        long want = ((Number) ofModel.get(name).invoke(model, args)).longValue();
        long got = ((Number) ofClass.get(name).invoke(x, args)).longValue();
        seen.computeIfAbsent(name, n -> new TreeMap<>()).merge(want, 1, Integer::sum);
        if (got != want) {
            wrong++;
            run.forEach(System.out::println);
            System.out.println("answered " + got + ", due is " + want);
        }
    }

    /** That chance doesn't pass some call by: each has many kinds of answers. */
    private void lookAtWhatWasSeen() {
        boolean poor = false;
        for (String name : ofClass.keySet()) {
            Map<Long, Integer> answers = seen.getOrDefault(name, Map.of());
            int few = name.matches("image|restore|numbers|sleep") ? 2 : 5;
            poor |= answers.size() < few;
            System.out.println("  " + name + " " + answers.values().stream().mapToInt(i -> i).sum()
                + " calls, " + answers.size() + " answers");
        }
        if (poor) {
            System.out.println("ModelTest: some call has too few answers");
            System.exit(1);
        }
    }
}
