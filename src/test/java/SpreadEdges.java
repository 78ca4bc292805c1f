/** Promises 24 to 28: spreading, who stops it, where two meet. */
final class SpreadEdges extends EdgePart {
    private static final String CHAIN = stations(4) + ways("01 12 23") + "at 0 size 5;";
    /** 1 takes 7 from 2 and 3 from 3, a round behind it has 5 from 0. */
    private static final String GREATEST = stations(4) + ways("01 02 03 21 31") + "at 0 size 5;"
        + "passes:if station=2 then 7 else if station=3 then 3 else size end end;";

    SpreadEdges(Edges edges) {
        super(edges);
    }

    @Override
    void all() {
        spreading();
        spread();
        rounds();
        crowd();
        stopper();
        meeting();
        meets();
    }

    private void sizes(YawnRoute x, int n, int... due) {
        for (int s = 0; s < due.length; s++) {
            due("spread(" + s + ", " + n + ")", x.spread(s, n), due[s]);
        }
    }

    private void spreading() {
        edge(24, "SPREADING: at first only the STATION where it is has it, with its SIZE;", () -> {
            YawnRoute x = Check.of(CHAIN);
            sizes(x, 0, 5, 0, 0, 0);
            x.off(2, 9);
            sizes(x, 0, 0, 0, 9, 0);
            x.sleep(2);
            sizes(x, 0, 0, 0, 9, 0);
        });
        edge(24, "in each ROUND all who have it PASS it to all to whom they can", () -> {
            YawnRoute x = Check.of("net;station;station;station;station asleep;station dull 9;station;"
                + ways("01 02 03 04 15 25 50") + "at 0 size 5;takes:dull<9;passes:if station=5 then size-from else size end;");
            sizes(x, 1, 5, 5, 5, 0, 0, 0);
            sizes(x, 2, 5, 5, 5, 0, 0, 4);
            YawnRoute asleep = Check.of(CHAIN);
            asleep.sleep(0);
            sizes(asleep, 1, 5, 5, 0, 0);
        });
        edge(24, "with the SIZES they had ahead, and keep theirs;", () -> {
            YawnRoute x = Check.of(CHAIN);
            sizes(x, 1, 5, 5, 0, 0);
            sizes(x, 2, 5, 5, 5, 0);
            sizes(x, 3, 5, 5, 5, 5);
            YawnRoute grows = Check.of(TWO + "passes:size+1;");
            sizes(grows, 1, 5, 6);
            sizes(grows, 2, 7, 6);
            sizes(grows, 3, 7, 8);
        });
        edge(24, "who has it then has the greatest of these and its own", () -> {
            YawnRoute x = Check.of(GREATEST);
            sizes(x, 1, 5, 5, 7, 3);
            sizes(x, 2, 5, 7, 7, 3);
            YawnRoute shrinks = Check.of(TWO + "passes:size-1;");
            sizes(shrinks, 1, 5, 4);
            sizes(shrinks, 2, 5, 4);
            YawnRoute lost = Check.of(CHAIN + "passes:if station=2 then 0 else size end;");
            sizes(lost, 9, 5, 5, 0, 0);
        });
        edge(24, "till a ROUND changes nothing.", () -> {
            sizes(Check.of(CHAIN), 4, 5, 5, 5, 5);
            sizes(Check.of(CHAIN), 999, 5, 5, 5, 5);
            sizes(Check.of(RING), 278, 40, 40, 40, 40, 40, 40, 39);
            sizes(Check.of(RING), 279, 40, 40, 40, 40, 40, 40, 40);
        });
    }

    private void spread() {
        edge(24, "SPREADING: the SIZE a STATION has behind n ROUNDS (0 to 999; 0: none).", () -> {
            YawnRoute x = Check.of(CHAIN);
            due("0 rounds", x.spread(0, 0), 5);
            due("none yet", x.spread(3, 2), 0);
            due("999 rounds", x.spread(3, 999), 5);
            due("nothing is done", x.count(2) + x.count(6), 0);
        });
        edge(24, "-2; -3: n; -5.", () -> {
            YawnRoute x = Check.of(TWO);
            for (int other : new int[] {-1, 2, 7, MIN, MAX}) {
                due("spread(" + other + ", 0)", x.spread(other, 0), -2);
            }
            for (int other : new int[] {-1, 1000, MIN, MAX}) {
                due("spread(0, " + other + ")", x.spread(0, other), -3);
            }
            due("nowhere", Check.of(NOWHERE).spread(0, 0), -5);
        });
    }

    private void rounds() {
        edge(25, "In how many ROUNDS it ends (behind the last that changes some).", () -> {
            due("none", Check.of(ALONE).rounds(), 0);
            due("none, as all sleep", Check.of("net;station;station asleep;way 0 1;at 0 size 5;").rounds(), 0);
            due("none, as it is lost", Check.of(TWO + "passes:0;").rounds(), 0);
            due("one", Check.of(complete(7)).rounds(), 1);
            due("three", Check.of(CHAIN).rounds(), 3);
            due("two, as a size changes behind all have it", Check.of(GREATEST).rounds(), 2);
            due("till both have 40: 0 by the 36th", Check.of(TWO + "passes:size+1;").rounds(), 36);
            due("39 times around and 6", Check.of(RING).rounds(), 279);
        });
        edge(25, "-5.", () -> {
            due("nowhere", Check.of(NOWHERE).rounds(), -5);
            due("no stations", new YawnRoute().rounds(), -5);
        });
    }

    private void crowd() {
        edge(26, "Who has it in the end, as bits.", () -> {
            due("all", Check.of(CHAIN).crowd(), 15);
            due("all seven", Check.of(complete(7)).crowd(), 127);
            due("one", Check.of(ALONE).crowd(), 1);
            due("with size 1", Check.of(CHAIN + "at 0 size 1;").crowd(), 15);
            due("with size 40", Check.of(CHAIN + "at 0 size 40;").crowd(), 15);
            due("not one by which it is lost", Check.of(CHAIN + "passes:if station=2 then 0 else 40 end;").crowd(), 3);
            YawnRoute x = Check.of(CHAIN);
            x.sleep(2);
            due("not behind one asleep", x.crowd(), 3);
            x.off(2, 5);
            due("that one, if it is there", x.crowd(), 12);
            due("not by a smaller size than it keeps", Check.of(stations(4) + ways("01 12 03 31") + "at 0 size 5;"
                + "takes:not [station=2 and size=5];passes:if station=3 then 2 else size end;").crowd(), 11);
        });
        edge(26, "-5.", () -> {
            due("nowhere", Check.of(NOWHERE).crowd(), -5);
            due("no stations", new YawnRoute().crowd(), -5);
        });
    }

    private void stopper() {
        edge(27, "The STATION (not where it is, not SLEEPING) by the sleep of which fewest have it in the end, the first.", () -> {
            YawnRoute x = Check.of(CHAIN);
            due("1, not 0", x.stopper(), 1);
            x.off(1, 5);
            due("2: two have it; by 0 it would be three", x.stopper(), 2);
            x.off(0, 5);
            x.sleep(1);
            due("2, as 1 sleeps: all are alike", x.stopper(), 2);
            due("six of seven, by each: the first", Check.of(complete(7)).stopper(), 1);
            due("the last but the first two", Check.of(stations(7) + ways("01 02 03 34 35 36") + "at 0 size 5;").stopper(), 3);
            due("a later one", Check.of(stations(5) + ways("01 02 23 24") + "at 0 size 5;").stopper(), 2);
            due("of like ones the first", Check.of(stations(5) + ways("03 31 04 42") + "at 0 size 5;").stopper(), 3);
            due("one that would not have it", Check.of("net;station;station;station asleep;at 2 size 5;").stopper(), 0);
            due("where it is is none, though it sleeps", Check.of("net;station asleep;station;at 0 size 5;").stopper(), 1);
        });
        edge(27, "by the sleep of which fewest have it in the end", () -> {
            YawnRoute x = Check.of(stations(5) + ways("02 01 13 34") + "at 0 size 5;takes:station<4 or size>5;"
                + "passes:if station=3 then 7 else size end;");
            due("1 holds off 3 and 4, too", x.stopper(), 1);
            due("nothing is done", x.count(4) + x.count(6), 0);
        });
        edge(27, "NONE: there is none such; -5.", () -> {
            due("alone", Check.of(ALONE).stopper(), NONE);
            due("all others sleep", Check.of("net;station asleep;station;station asleep;at 1 size 5;").stopper(), NONE);
            due("nowhere", Check.of(NOWHERE).stopper(), -5);
            due("no stations", new YawnRoute().stopper(), -5);
        });
    }

    private void meeting() {
        edge(28, "MEETING: if one of SIZE v is LET OFF at each of two STATIONS at once, and both SPREAD, each by itself:", () -> {
            String row = stations(5) + ways("01 12 43 32");
            YawnRoute x = Check.of(row);
            due("both come to 2, though it is nowhere", x.meets(0, 4, 5), 2);
            due("the other way about", x.meets(4, 0, 5), 2);
            due("nothing is let off", x.count(2), NONE);
            x.off(2, 5);
            due("where it is makes nothing of it", x.meets(0, 4, 5), 2);
            x.sleep(0);
            x.sleep(4);
            due("they may sleep", x.meets(0, 4, 5), 2);
            x.sleep(2);
            due("not those on the way", x.meets(0, 4, 5), NONE);
            due("sizes count", Check.of(row + "takes:size>4;").meets(0, 4, 5), 2);
            due("sizes count", Check.of(row + "takes:size>4;").meets(0, 4, 4), NONE);
            due("each by itself: no size is of both", Check.of(stations(4) + ways("02 12 23 30 31")
                + "takes:station=2;passes:size-3;").meets(0, 1, 3), NONE);
        });
        edge(28, "the first ROUND behind which some STATION has both (0: one and the same).", () -> {
            YawnRoute x = Check.of(stations(4) + ways("01 12 23"));
            due("one and the same", x.meets(2, 2, 5), 0);
            due("1 keeps its own", x.meets(0, 1, 5), 1);
            due("it keeps its own till then", x.meets(0, 3, 5), 3);
            due("the other way about", x.meets(3, 0, 5), 3);
            due("at 0", Check.of(stations(3) + ways("10 20")).meets(1, 2, 5), 1);
            due("at 6", Check.of(stations(7) + ways("16 26")).meets(1, 2, 5), 1);
            due("with size 1", x.meets(0, 3, 1), 3);
            due("with size 40", x.meets(0, 3, 40), 3);
            due("of two the first", Check.of(stations(5) + ways("02 12 03 34 14")).meets(0, 1, 5), 1);
            YawnRoute late = Check.of(stations(5) + ways("01 10 34 43 12 42") + "takes:not station=2 or size=40;passes:size+1;");
            due("1 has 40 behind 39", late.meets(0, 3, 1), 40);
            due("at once", late.meets(0, 3, 40), 2);
        });
    }

    private void meets() {
        edge(28, "MEETING: the ROUND. NONE: never;", () -> {
            due("a round", Check.of(TWO).meets(0, 1, 5), 1);
            due("no ways", Check.of(stations(2)).meets(0, 1, 5), NONE);
            due("lost", Check.of(TWO + "passes:0;").meets(0, 1, 5), NONE);
        });
        edge(28, "-2: a STATION; -3: the SIZE (1 to 40).", () -> {
            YawnRoute x = Check.of(TWO);
            for (int other : new int[] {-1, 2, 7, MIN, MAX}) {
                due("meets(" + other + ", 0, 1)", x.meets(other, 0, 1), -2);
                due("meets(0, " + other + ", 1)", x.meets(0, other, 1), -2);
                due("one and the same, which isn't there", x.meets(other, other, 1), -2);
            }
            for (int other : new int[] {-1, 0, 41, MIN, MAX}) {
                due("meets(0, 1, " + other + ")", x.meets(0, 1, other), -3);
                due("meets(0, 0, " + other + ")", x.meets(0, 0, other), -3);
            }
            due("1", x.meets(0, 1, 1), 1);
            due("40", x.meets(0, 1, 40), 1);
        });
    }
}
