/** Some tests of single sentences, with what they have in common. */
abstract class EdgePart {
    static final int NONE = YawnRoute.NONE;
    static final int MIN = Integer.MIN_VALUE;
    static final int MAX = Integer.MAX_VALUE;

    /** Two ways from 0 to 2: over 1 in 3 hours, straight on in 5; a dull station takes more off. */
    static final String FORK = "net;station;station dull 3 kind 1;station dull 1;"
        + "station asleep;way 0 1 hours 2 odds 3;way 1 2;way 0 2 hours 5 odds 4;way 2 0 odds 10;"
        + "way 1 3;at 0 size 10;takes:size>dull;passes:size-dull+kind;";
    static final String TWO = "net;station;station;way 0 1;way 1 0;at 0 size 5;";
    static final String NOWHERE = "net;station;station;way 0 1;way 1 0;";
    static final String ALONE = "net;station;at 0 size 7;";

    /** Round and round, 9 hours each; it grows at 0 alone, so that it comes to 6 with 40 by 39 rounds and 6 passings. */
    static final String RING = stations(7) + "way 0 1 hours 9;way 1 2 hours 9;way 2 3 hours 9;way 3 4 hours 9;"
        + "way 4 5 hours 9;way 5 6 hours 9;way 6 0 hours 9;at 0 size 1;passes:if station=0 then size+1 else size end;";

    private final Edges edges;

    EdgePart(Edges edges) {
        this.edges = edges;
    }

    abstract void all();

    final void edge(int promise, String sentence, Runnable test) {
        edges.edge(promise, sentence, test);
    }

    final void due(String call, long got, long want) {
        edges.due(call, got, want);
    }

    static String stations(int n) {
        return "net;" + "station;".repeat(n);
    }

    /** A way for each two numbers told: "01 12" leads from 0 to 1 and from 1 to 2. */
    static String ways(String told) {
        StringBuilder b = new StringBuilder();
        for (String way : told.split(" ")) {
            b.append("way ").append(way.charAt(0)).append(' ').append(way.charAt(1)).append(';');
        }
        return b.toString();
    }

    /** So many stations, a way from each to each other one, the yawn at 0 with size 5. */
    static String complete(int n) {
        StringBuilder b = new StringBuilder();
        for (int s = 0; s < n; s++) {
            for (int t = 0; t < n; t++) {
                b.append(s == t ? "" : " " + s + t);
            }
        }
        return stations(n) + ways(b.substring(1)) + "at 0 size 5;";
    }

    /** All that looking tells of an object, but for trays and images. */
    static String look(YawnRoute x) {
        StringBuilder b = new StringBuilder();
        for (int what = 0; what <= 8; what++) {
            b.append(x.count(what)).append(' ');
        }
        for (int s = 0; s < 7; s++) {
            for (int what = 0; what <= 4; what++) {
                b.append(x.station(s, what)).append(' ');
            }
            for (int t = 0; t < 7; t++) {
                b.append(x.way(s, t, 0)).append(' ').append(x.way(s, t, 1)).append(' ');
            }
            b.append(x.brings(s)).append(' ');
        }
        return b.append(x.fault(0)).append(' ').append(x.fault(1)).toString();
    }

    final void same(String what, YawnRoute x, String ahead) {
        String now = look(x);
        due(what + ": it looks like " + now + ", not " + ahead + " (1: alike)", now.equals(ahead) ? 1 : 0, 1);
    }
}
