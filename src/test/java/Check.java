/** Counts the answers that aren't due, and feeds texts. */
final class Check {
    private final String name;
    private int asked;
    private int wrong;

    Check(String name) {
        this.name = name;
    }

    void due(String call, long got, long want) {
        asked++;
        if (got != want) {
            wrong++;
            System.out.println(name + ": " + call + " answered " + got + ", due is " + want);
        }
    }

    void holds(String what, boolean held) {
        due(what + " (1: it holds)", held ? 1 : 0, 1);
    }

    void end() {
        System.out.println(name + ": " + asked + " asked, " + wrong + " wrong");
        if (wrong > 0) {
            System.exit(1);
        }
    }

    /** The numbers to feed for a text, padded with blanks to twenties. */
    static int[] fours(String text) {
        int bytes = (text.length() + 19) / 20 * 20;
        int[] all = new int[bytes / 4];
        for (int i = 0; i < bytes; i++) {
            int c = i < text.length() ? text.charAt(i) & 255 : ' ';
            all[i / 4] = all[i / 4] << 8 | c;
        }
        return all;
    }

    static void feed(YawnRoute x, String text) {
        int[] all = fours(text);
        for (int i = 0; i < all.length; i += 5) {
            x.feed(all[i], all[i + 1], all[i + 2], all[i + 3], all[i + 4]);
        }
    }

    /** What net() answers to a text. */
    static int read(YawnRoute x, String text) {
        feed(x, text);
        return x.net(text.length());
    }

    static YawnRoute of(String text) {
        YawnRoute x = new YawnRoute();
        int lines = read(x, text);
        if (lines < 1) {
            throw new IllegalArgumentException("the test's own text has a fault: " + lines + " at "
                + x.fault(1) + " of " + text);
        }
        return x;
    }

    /** Tray t gets these numbers of 64 bits. */
    static void tray(YawnRoute x, int t, long... numbers) {
        x.numbers(t, 3, numbers.length);
        for (int i = 0; i < numbers.length; i++) {
            x.write(t, i, numbers[i]);
        }
    }
}
