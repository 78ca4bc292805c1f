import java.util.Random;

/** Nets by chance: most are good, some have a fault by a change of a few signs. */
final class RandomTexts {
    private final Random random;

    RandomTexts(Random random) {
        this.random = random;
    }

    String text() {
        StringBuilder b = new StringBuilder();
        b.append(blank()).append("net").append(blank()).append(";");
        int stations = random.nextInt(20) == 0 ? random.nextInt(3) : 2 + random.nextInt(6);
        for (int s = 0; s < stations; s++) {
            b.append(station());
        }
        int ways = random.nextInt(4) == 0 ? random.nextInt(4) : stations + random.nextInt(2 + stations * 3);
        for (int i = 0; i < ways && stations > 1 && b.length() < 700; i++) {
            b.append(way(stations));
        }
        if (random.nextInt(12) > 0 && stations > 0) {
            b.append("at ").append(random.nextInt(stations)).append(" size ");
            b.append(1 + random.nextInt(random.nextInt(3) == 0 ? 40 : 9)).append(";");
        }
        if (random.nextInt(3) > 0) {
            add(b, "takes:" + truth(0) + ";");
        }
        if (random.nextInt(4) > 0) {
            add(b, "passes" + blank() + ":" + sum(0, 0) + ";");
        }
        if (random.nextInt(20) == 0) {
            add(b, "passes:" + sum(0, 0) + ";");
            add(b, station());
        }
        b.append(random.nextInt(4) == 0 ? " \n" : "");
        if (random.nextInt(6) == 0) {
            moveLine(b);
        }
        return random.nextInt(5) == 0 ? changed(b) : b.toString();
    }

    private static void add(StringBuilder b, String line) {
        if (b.length() + line.length() <= 900) {
            b.append(line);
        }
    }

    private String blank() {
        int n = random.nextInt(8);
        return n == 0 ? " " : n == 1 ? "\n " : "";
    }

    private String station() {
        StringBuilder b = new StringBuilder("station");
        for (int i = random.nextInt(4); i > 0; i--) {
            int n = random.nextInt(12);
            b.append(n < 6 ? " dull " + random.nextInt(random.nextInt(3) == 0 ? 10 : 4) : n < 11 ? " kind " + random.nextInt(10) : " asleep");
        }
        return b.append(";").toString();
    }

    private String way(int stations) {
        int from = random.nextInt(stations);
        int to = (from + 1 + random.nextInt(stations - 1)) % stations;
        StringBuilder b = new StringBuilder("way " + from + " " + to);
        for (int i = random.nextInt(4); i > 0; i--) {
            b.append(random.nextBoolean() ? " hours " + (1 + random.nextInt(9)) : " odds " + random.nextInt(11));
        }
        return b.append(";").toString();
    }

    private String truth(int open) {
        int n = random.nextInt(open < 5 ? 12 : 6);
        if (n == 6) {
            return "not " + unit(open + 1);
        }
        if (n == 7) {
            return truth(open + 1 > 5 ? 5 : open + 1).length() > 60 ? "size>dull" : "[" + truth(open + 1) + "]";
        }
        if (n == 8) {
            return unit(open) + " and " + unit(open);
        }
        if (n == 9) {
            return unit(open) + " or " + unit(open);
        }
        if (n == 10 && open < 2) {
            String sign = random.nextBoolean() ? " and " : " or ";
            return truth(5) + sign + truth(5) + sign + likely(5) + (random.nextBoolean() ? sign : " or ") + likely(5);
        }
        return likely(open);
    }

    private String unit(int open) {
        int n = random.nextInt(open < 5 ? 6 : 4);
        return n == 4 ? "not " + unit(open + 1) : n == 5 ? "[" + truth(open + 1) + "]" : likely(open);
    }

    /** Holds for many, so that routes are long. */
    private String likely(int open) {
        switch (random.nextInt(5)) {
            case 0: return "size + " + random.nextInt(6) + " > dull";
            case 1: return "size<" + (5 + random.nextInt(40));
            case 2: return "kind < " + (3 + random.nextInt(7));
            case 3: return "hours + from > " + random.nextInt(4);
            default: return sum(open, 0) + "<=>".charAt(random.nextInt(3)) + sum(open, 1);
        }
    }

    private String sum(int open, int deep) {
        switch (random.nextInt(deep < 3 ? 10 : 4)) {
            case 0: return "size";
            case 1: return "size - " + random.nextInt(3);
            case 2: return random.nextBoolean() ? "size+1" : "size + from - dull";
            case 3: return atom(open);
            case 4: return "size - dull + kind";
            case 5: return "size + " + atom(open) + " - " + atom(open);
            case 6: return atom(open) + " * " + atom(open) + " - " + sum(open, deep + 1);
            case 7: return open < 6 ? "(" + sum(open + 1, deep + 1) + ")" : "kind";
            case 8: return open < 5
                ? "if " + unit(open + 1) + " then " + sum(open + 1, deep + 1) + " else " + sum(open + 1, deep + 1) + " end"
                : "hours";
            default: return "size * 2 - dull";
        }
    }

    private String atom(int open) {
        String[] words = {"station", "dull", "kind", "size", "from", "hours", "1", "2", "3", "999", "07", "size"};
        return words[random.nextInt(words.length)];
    }

    /** A line is told elsewhere, too, or with another number: what is told later counts, or has a fault. */
    private void moveLine(StringBuilder b) {
        String[] lines = b.toString().split("(?<=;)");
        String line = lines[random.nextInt(lines.length)];
        if (random.nextInt(3) > 0) {
            line = line.replaceFirst("\\d+", "" + random.nextInt(random.nextInt(3) == 0 ? 1000 : 10));
        }
        int from = 0;
        for (int i = random.nextInt(lines.length + 1); i > 0; i--) {
            from += lines[i - 1].length();
        }
        if (b.length() + line.length() <= 900) {
            b.insert(from, line);
        }
    }

    private String changed(StringBuilder b) {
        String signs = "not [ ( if then else end ; : + - * ) ] = < > 0 1 9 41 1000 a station ? A \t";
        String[] all = signs.split(" ");
        for (int i = 1 + random.nextInt(2); i > 0 && b.length() > 0; i--) {
            int at = random.nextInt(b.length());
            switch (random.nextInt(4)) {
                case 0: b.deleteCharAt(at); break;
                case 1: b.setCharAt(at, (char) random.nextInt(256)); break;
                case 2: b.setLength(at); break;
                default: b.insert(at, all[random.nextInt(all.length)]); break;
            }
        }
        b.setLength(Math.min(b.length(), 900));
        return b.toString();
    }
}
