/** Promises 16 to 23: routes, who is needed for them, who stops them. */
final class RouteEdges extends EdgePart {
    private static final String GROWS = TWO + "passes:size+1;";
    /** Nobody is in the way of 3 alone; without 1 it comes there smaller. */
    private static final String TWICE = stations(4) + ways("01 02 13 23") + "at 0 size 9;passes:if station=2 then 4 else size end;";

    RouteEdges(Edges edges) {
        super(edges);
    }

    @Override
    void all() {
        dullOnes();
        route();
        coming();
        soonestOfAll();
        soonest();
        soonBy();
        fewest();
        fewBy();
        biggest();
        reach();
        neededOnes();
        needed();
        sleepersOfAll();
        sleepers();
    }

    private static String soon(YawnRoute x, int s, int size) {
        StringBuilder b = new StringBuilder();
        for (int i = 0; i < 20 && x.soonBy(s, size, i) >= 0; i++) {
            b.append(x.soonBy(s, size, i));
        }
        return b.toString();
    }

    private static String few(YawnRoute x, int s, int size) {
        StringBuilder b = new StringBuilder();
        for (int i = 0; i < 20 && x.fewBy(s, size, i) >= 0; i++) {
            b.append(x.fewBy(s, size, i));
        }
        return b.toString();
    }

    private void by(String what, String got, String want) {
        due(what + ": " + got + ", due is " + want + " (1: alike)", got.equals(want) ? 1 : 0, 1);
    }

    /** All questions ask how dull the one that takes it is by now, whichever it is. */
    private void dullOnes() {
        for (int s = 0; s < 7; s++) {
            int to = s;
            int from = (s + 1) % 7;
            edge(7, "In both laws: station, dull, kind: the number, dullness, kind of that which is to take it", () -> {
                YawnRoute x = Check.of(stations(7) + "way " + from + " " + to + ";at " + from + " size 5;takes:dull<9;passes:dull+2;");
                due("not dull", x.biggest(to), 2);
                asDull(x, from, to, 2);
                x.dull(to, 7);
                asDull(x, from, to, 9);
                x.dull(from, 3);
                asDull(x, from, to, 9);
                x.dull(to, 9);
                due("too dull: biggest", x.biggest(to), NONE);
                due("soonest", x.soonest(to, 1), NONE);
                due("reach", x.reach(), 1 << from);
                due("crowd", x.crowd(), 1 << from);
                due("forces", x.forces(to), NONE);
                x.undo(3);
                asDull(x, from, to, 2);
            });
        }
    }

    private void asDull(YawnRoute x, int from, int to, int size) {
        due("biggest", x.biggest(to), size);
        due("soonest", x.soonest(to, size), 1);
        due("soonest with more", x.soonest(to, size + 1), NONE);
        due("fewest", x.fewest(to, size), 1);
        due("fewest with more", x.fewest(to, size + 1), NONE);
        due("spread", x.spread(to, 1), size);
        due("back", x.back(1, to, size), 1);
        due("back with more", x.back(1, to, size + 1), 0);
        due("chance", x.chance(to, 1, 1), 10);
        due("meets", x.meets(from, to, 5), 1);
        due("pass", x.pass(to), size);
        due("undone", x.undo(1) >= 0 ? 1 : 0, 1);
        due("it is there again", x.count(2), from);
    }

    private void route() {
        edge(16, "A ROUTE: PASSINGS from now on, one behind the other", () -> {
            YawnRoute x = Check.of(stations(3) + "way 0 1 hours 4;way 1 2 hours 5;at 0 size 5;");
            due("9 hours", x.soonest(2, 1), 9);
            x.pass(1);
            due("from now on 5", x.soonest(2, 1), 5);
            due("not back", x.soonest(0, 1), NONE);
            x.off(0, 3);
            due("9 again, though 4 went by", x.soonest(2, 1), 9);
        });
        edge(16, "nothing else being done", () -> {
            YawnRoute x = Check.of("net;station;station asleep;station;way 0 1;way 1 2;at 0 size 5;takes:dull<5;");
            due("1 sleeps on", x.soonest(2, 1), NONE);
            x.sleep(1);
            due("awake", x.soonest(2, 1), 2);
            x.dull(1, 5);
            due("1 is dull on", x.soonest(2, 1), NONE);
        });
        edge(16, "it being lost in none.", () -> {
            YawnRoute x = Check.of(stations(3) + "way 0 1;way 1 2;way 0 2 hours 9;at 0 size 5;passes:if station=1 then 0 else size end;");
            due("not over 1", x.soonest(2, 1), 9);
            due("not to 1", x.soonest(1, 1), NONE);
            due("nor by passings", x.fewest(1, 1), NONE);
            YawnRoute gone = Check.of(TWO + "passes:0;");
            due("lost is not at the station ahead, either", gone.soonest(0, 6), NONE);
            due("with no size", gone.soonest(0, 40), NONE);
            due("size 1 isn't lost", Check.of(stations(3) + ways("01 12") + "at 0 size 3;passes:size-1;").soonest(2, 1), 2);
            due("size 0 is", Check.of(stations(3) + ways("01 12") + "at 0 size 2;passes:size-1;").soonest(2, 1), NONE);
        });
    }

    private void coming() {
        edge(16, "COMING to a STATION with a SIZE at least: a ROUTE behind which it is so", () -> {
            YawnRoute x = Check.of(GROWS);
            due("it is so without a passing", x.soonest(0, 5), 0);
            due("with more", x.soonest(0, 1), 0);
            due("there and back", x.soonest(0, 6), 2);
            due("there and back", x.soonest(0, 7), 2);
            due("twice", x.soonest(0, 8), 4);
            due("just so", x.soonest(1, 6), 1);
            due("one more", x.soonest(1, 7), 3);
            due("never more without a law", Check.of(TWO).soonest(1, 6), NONE);
            due("as much as it is", Check.of(TWO).soonest(1, 5), 1);
        });
    }

    private void soonestOfAll() {
        String all = "SOONEST: the fewest HOURS, of like ones the fewest PASSINGS, then the first (STATION by STATION);";
        edge(16, all, () -> {
            YawnRoute x = Check.of(stations(5) + "way 0 4 hours 5;way 0 1;way 1 2;way 2 4 hours 2;at 0 size 5;");
            due("4 hours by three against 5 by one", x.soonest(4, 1), 4);
            by("the route", soon(x, 4, 1), "124");
        });
        edge(17, all, () -> {
            YawnRoute x = Check.of(stations(5) + "way 0 1;way 1 2;way 2 4 hours 2;way 0 3 hours 2;way 3 4 hours 2;at 0 size 5;");
            due("4 hours both ways", x.soonest(4, 1), 4);
            by("two passings, though 1 is ahead of 3", soon(x, 4, 1), "34");
        });
        edge(17, "then the first (STATION by STATION);", () -> {
            by("the first station", soon(Check.of(stations(4) + ways("02 23 01 13") + "at 0 size 5;"), 3, 1), "13");
            by("the second station", soon(Check.of(stations(6) + ways("01 14 45 13 35") + "at 0 size 5;"), 5, 1), "135");
            by("hours may be parted in other ways", soon(Check.of(stations(4)
                + "way 0 1 hours 5;way 1 3;way 0 2;way 2 3 hours 5;at 0 size 5;"), 3, 1), "13");
            by("of those that are big enough", soon(Check.of(TWICE), 3, 5), "13");
            by("of those that are big enough", soon(Check.of(TWICE.replace("station=2", "station=1")), 3, 5), "23");
        });
        edge(19, "or the fewest PASSINGS, of like ones the first.", () -> {
            YawnRoute x = Check.of(stations(5) + "way 0 4 hours 5;way 0 1;way 1 2;way 2 4 hours 2;at 0 size 5;");
            due("one, though it takes longer", x.fewest(4, 1), 1);
            by("the route", few(x, 4, 1), "4");
            by("the first, though it takes longer", few(Check.of(stations(4)
                + "way 0 1 hours 9;way 1 3 hours 9;way 0 2;way 2 3;at 0 size 5;"), 3, 1), "13");
            by("the second station", few(Check.of(stations(6) + ways("01 14 45 13 35") + "at 0 size 5;"), 5, 1), "135");
            by("of those that are big enough", few(Check.of(TWICE.replace("station=2", "station=1")), 3, 5), "23");
        });
    }

    private void soonest() {
        edge(16, "COMING SOONEST to a STATION with a SIZE (1 to 40) at least: how many HOURS.", () -> {
            YawnRoute x = Check.of(FORK);
            due("over 1", x.soonest(2, 1), 3);
            due("7 is all that is left over 1", x.soonest(2, 7), 3);
            due("so straight on", x.soonest(2, 8), 5);
            due("size 40", Check.of(GROWS).soonest(1, 40), 35);
            due("from size 1 with size 1", Check.of(stations(3) + ways("01 12") + "at 0 size 1;").soonest(2, 1), 2);
            due("from size 40 with size 40", Check.of(stations(3) + ways("01 12") + "at 0 size 40;").soonest(2, 40), 2);
            due("over those told later", Check.of(stations(5) + "way 0 1 hours 9;way 0 2 hours 9;way 0 3;way 3 1;way 1 2;way 2 4;"
                + "at 0 size 5;").soonest(4, 1), 4);
            due("over those told later", Check.of(stations(7) + "way 0 1 hours 9;way 0 2 hours 9;way 0 3 hours 9;way 0 4 hours 9;"
                + "way 0 5;way 5 1;way 1 4;way 4 2;way 2 3;way 3 6;way 5 6 hours 9;at 0 size 5;").soonest(6, 1), 6);
            due("by 279 passings of 9 hours", Check.of(RING).soonest(6, 40), 2511);
        });
        edge(16, "NONE: it can't be;", () -> {
            YawnRoute x = Check.of(FORK);
            due("too big", x.soonest(2, 10), NONE);
            due("bigger than where it is", x.soonest(0, 11), NONE);
            due("asleep", x.soonest(3, 1), NONE);
            due("no way", Check.of(NOWHERE.replace("way 0 1;", "") + "at 0 size 1;").soonest(1, 1), NONE);
            due("the law", Check.of(TWO + "takes:1=2;").soonest(1, 1), NONE);
        });
        edge(16, "-2; -3: the SIZE; -5: it is nowhere.", () -> {
            YawnRoute x = Check.of(TWO);
            for (int other : new int[] {-1, 2, 7, MIN, MAX}) {
                due("soonest(" + other + ", 1)", x.soonest(other, 1), -2);
            }
            for (int other : new int[] {-1, 0, 41, MIN, MAX}) {
                due("soonest(0, " + other + ")", x.soonest(0, other), -3);
            }
            due("1 and 40 are sizes", x.soonest(0, 1) * 10 + x.soonest(0, 40), NONE);
            due("nowhere", Check.of(NOWHERE).soonest(1, 1), -5);
            YawnRoute lost = Check.of(TWO + "passes:0;");
            lost.pass(1);
            due("lost", lost.soonest(0, 1), -5);
        });
    }

    private void soonBy() {
        edge(17, "The i-th STATION of it.", () -> {
            YawnRoute x = Check.of(FORK);
            due("0", x.soonBy(2, 1, 0), 1);
            due("1", x.soonBy(2, 1, 1), 2);
            YawnRoute ring = Check.of(RING);
            due("6", ring.soonBy(6, 40, 6), 0);
            due("277", ring.soonBy(6, 40, 277), 5);
            due("278, the last one", ring.soonBy(6, 40, 278), 6);
        });
        edge(17, "NONE: not so many, it can't be;", () -> {
            YawnRoute x = Check.of(FORK);
            due("not so many", x.soonBy(2, 1, 2), NONE);
            due("far too many", x.soonBy(2, 1, MAX), NONE);
            due("it is there", x.soonBy(0, 1, 0), NONE);
            due("it can't be", x.soonBy(2, 10, 0), NONE);
            due("it can't be", x.soonBy(3, 1, 0), NONE);
            due("279", Check.of(RING).soonBy(6, 40, 279), NONE);
        });
        edge(17, "-2; -3: the SIZE, i is below 0; -5.", () -> {
            YawnRoute x = Check.of(TWO);
            for (int other : new int[] {-1, 2, 7, MIN, MAX}) {
                due("soonBy(" + other + ", 1, 0)", x.soonBy(other, 1, 0), -2);
            }
            for (int other : new int[] {-1, 0, 41, MIN, MAX}) {
                due("soonBy(1, " + other + ", 0)", x.soonBy(1, other, 0), -3);
            }
            due("i is -1", x.soonBy(1, 1, -1), -3);
            due("far below", x.soonBy(1, 1, MIN), -3);
            due("nowhere", Check.of(NOWHERE).soonBy(1, 1, 0), -5);
        });
    }

    private void fewest() {
        edge(18, "By the fewest PASSINGS: how many.", () -> {
            due("straight on", Check.of(FORK).fewest(2, 1), 1);
            due("none", Check.of(FORK).fewest(0, 10), 0);
            due("there and back and there", Check.of(GROWS).fewest(1, 7), 3);
            due("size 40", Check.of(GROWS).fewest(1, 40), 35);
            due("279", Check.of(RING).fewest(6, 40), 279);
        });
        edge(18, "NONE: it can't be;", () -> {
            YawnRoute x = Check.of(FORK);
            due("too big", x.fewest(2, 10), NONE);
            due("bigger than where it is", x.fewest(0, 11), NONE);
            due("asleep", x.fewest(3, 1), NONE);
        });
        edge(18, "-2; -3; -5.", () -> {
            YawnRoute x = Check.of(TWO);
            for (int other : new int[] {-1, 2, 7, MIN, MAX}) {
                due("fewest(" + other + ", 1)", x.fewest(other, 1), -2);
            }
            for (int other : new int[] {-1, 0, 41, MIN, MAX}) {
                due("fewest(0, " + other + ")", x.fewest(0, other), -3);
            }
            due("nowhere", Check.of(NOWHERE).fewest(1, 1), -5);
        });
    }

    private void fewBy() {
        edge(19, "The i-th STATION of it.", () -> {
            due("0", Check.of(FORK).fewBy(2, 1, 0), 2);
            by("there and back and there", few(Check.of(GROWS), 1, 8), "101");
            YawnRoute ring = Check.of(RING);
            due("6", ring.fewBy(6, 40, 6), 0);
            due("278, the last one", ring.fewBy(6, 40, 278), 6);
        });
        edge(19, "NONE: not so many, it can't be;", () -> {
            YawnRoute x = Check.of(FORK);
            due("not so many", x.fewBy(2, 1, 1), NONE);
            due("far too many", x.fewBy(2, 1, MAX), NONE);
            due("it is there", x.fewBy(0, 1, 0), NONE);
            due("it can't be", x.fewBy(2, 10, 0), NONE);
            due("279", Check.of(RING).fewBy(6, 40, 279), NONE);
        });
        edge(19, "-2; -3: the SIZE, i is below 0; -5.", () -> {
            YawnRoute x = Check.of(TWO);
            for (int other : new int[] {-1, 2, 7, MIN, MAX}) {
                due("fewBy(" + other + ", 1, 0)", x.fewBy(other, 1, 0), -2);
            }
            for (int other : new int[] {-1, 0, 41, MIN, MAX}) {
                due("fewBy(1, " + other + ", 0)", x.fewBy(1, other, 0), -3);
            }
            due("i is -1", x.fewBy(1, 1, -1), -3);
            due("far below", x.fewBy(1, 1, MIN), -3);
            due("nowhere", Check.of(NOWHERE).fewBy(1, 1, 0), -5);
        });
    }

    private void biggest() {
        edge(20, "The greatest SIZE with which it can come to a STATION.", () -> {
            YawnRoute x = Check.of(FORK);
            due("straight on it is 9, over 1 it is 7", x.biggest(2), 9);
            due("where it is, without a passing", x.biggest(0), 10);
            due("40 at most", Check.of(GROWS).biggest(1), 40);
            due("1", Check.of(stations(2) + "way 0 1;at 0 size 2;passes:1;").biggest(1), 1);
            due("not lost with 40 at the station ahead", Check.of(TWO + "passes:0;").biggest(0), 5);
            due("greater behind coming back", Check.of(stations(3) + ways("01 10 02") + "at 0 size 1;"
                + "passes:if station=0 then 7 else size end;").biggest(2), 7);
            due("smaller behind it, as a big one isn't taken", Check.of(stations(3) + ways("01 10 12") + "at 0 size 5;"
                + "takes:station<2 or size<4;passes:size-1;").biggest(2), 1);
        });
        edge(20, "NONE: with none; -2; -5.", () -> {
            YawnRoute x = Check.of(FORK);
            due("asleep", x.biggest(3), NONE);
            due("lost", Check.of(TWO + "passes:0;").biggest(1), NONE);
            for (int other : new int[] {-1, 4, 7, MIN, MAX}) {
                due("biggest(" + other + ")", x.biggest(other), -2);
            }
            due("nowhere", Check.of(NOWHERE).biggest(0), -5);
        });
    }

    private void reach() {
        edge(21, "STATIONS to which it can come (where it is, too), as bits.", () -> {
            YawnRoute x = Check.of(FORK);
            due("0, 1, 2", x.reach(), 7);
            x.off(3, 10);
            due("alone, where it sleeps", x.reach(), 8);
            x.off(2, 1);
            due("back to 0, and then no more by the law", x.reach(), 5);
            due("all seven", Check.of(complete(7)).reach(), 127);
            due("from 2, where no way leads on", Check.of(stations(3) + ways("01 02") + "at 2 size 5;").reach(), 4);
            due("with size 1", Check.of(TWO + "at 0 size 1;").reach(), 3);
            due("with size 40", Check.of(TWO + "at 0 size 40;").reach(), 3);
            due("not where it is lost", Check.of(TWO + "passes:0;").reach(), 1);
            due("behind growing", Check.of(stations(3) + ways("01 10 02") + "at 0 size 5;takes:station<2 or size>39;"
                + "passes:size+1;").reach(), 7);
        });
        edge(21, "-5.", () -> {
            due("nowhere", Check.of(NOWHERE).reach(), -5);
            due("no stations", new YawnRoute().reach(), -5);
        });
    }

    private void neededOnes() {
        edge(22, "Other STATIONS (not where it is, not that one) without each of which (asleep)", () -> {
            YawnRoute x = Check.of(stations(5) + ways("01 12 13 23 34") + "at 0 size 5;");
            due("1 and 3, not 0, 2, 4", x.needed(4), 10);
            due("1", x.needed(2), 2);
            due("none", x.needed(1), 0);
            due("none, as it is there", x.needed(0), 0);
            due("0, as it isn't there", Check.of(stations(3) + ways("20 01") + "at 2 size 5;").needed(1), 1);
            due("five", Check.of(stations(7) + ways("01 12 23 34 45 56") + "at 0 size 5;").needed(6), 62);
            due("not 1, nor 2: each alone", Check.of(stations(4) + ways("01 02 13 23") + "at 0 size 5;").needed(3), 0);
            due("1, to grow", Check.of(stations(3) + ways("01 10 02") + "at 0 size 5;takes:station<2 or size>5;"
                + "passes:size+1;").needed(2), 2);
        });
        edge(22, "there is no COMING to a STATION with any SIZE, as bits", () -> {
            YawnRoute x = Check.of(TWICE);
            due("big only over 1", x.biggest(3), 9);
            due("but smaller without", x.needed(3), 0);
        });
        edge(22, "(0: there is none anyhow).", () -> {
            YawnRoute x = Check.of(stations(4) + ways("01 12") + "at 0 size 5;");
            due("no way", x.needed(3), 0);
            due("there is one", x.needed(2), 2);
            x.sleep(1);
            due("1 sleeps", x.needed(2), 0);
            x.sleep(1);
            x.sleep(2);
            due("it sleeps itself", x.needed(2), 0);
        });
    }

    private void needed() {
        edge(22, "-2; -5.", () -> {
            YawnRoute x = Check.of(TWO);
            for (int other : new int[] {-1, 2, 7, MIN, MAX}) {
                due("needed(" + other + ")", x.needed(other), -2);
            }
            due("nowhere", Check.of(NOWHERE).needed(0), -5);
        });
    }

    private void sleepersOfAll() {
        edge(23, "SLEEPERS for a STATION: others (not it, nor where THE YAWN is) that would sleep, too", () -> {
            YawnRoute x = Check.of(stations(4) + ways("01 12 23") + "at 0 size 5;");
            due("not 3, nor 0, but 1", x.sleepers(3, 1), 2);
            x.pass(1);
            due("by now not 1, but 2", x.sleepers(3, 1), 4);
            YawnRoute y = Check.of(stations(4) + ways("01 02 13 23") + "at 0 size 5;");
            due("1 and 2", y.sleepers(3, 1), 6);
            y.sleep(1);
            due("1 sleeps, so 2 is enough", y.sleepers(3, 1), 4);
            due("one", y.sleepers(3, 0), 1);
            due("0, as it isn't there", Check.of(stations(3) + ways("20 01") + "at 2 size 5;").sleepers(1, 1), 1);
            y.sleep(2);
            due("none, as both sleep", y.sleepers(3, 0), 0);
        });
        edge(23, "so that there is no COMING there (with any SIZE):", () -> {
            YawnRoute x = Check.of(TWICE);
            due("both, though 1 alone lets it come but smaller", x.sleepers(3, 1), 6);
        });
        edge(23, "the fewest, of like ones the least set as bits.", () -> {
            YawnRoute x = Check.of(stations(5) + ways("01 02 13 23 34") + "at 0 size 5;");
            due("3 alone, though 1 and 2 are less as bits", x.sleepers(4, 1), 8);
            due("one", x.sleepers(4, 0), 1);
            due("of 1 and 2 the least", Check.of(stations(4) + ways("01 12 23") + "at 0 size 5;").sleepers(3, 1), 2);
            YawnRoute y = Check.of(stations(7) + ways("01 02 13 14 23 24 35 45 56") + "way 4 6;at 0 size 5;");
            due("1 and 2, though 3 and 4, 4 and 5 would do, too", y.sleepers(6, 1), 6);
            due("two", y.sleepers(6, 0), 2);
            YawnRoute all = Check.of(stations(7) + ways("01 02 03 04 05 16 26 36 46 56") + "at 0 size 5;");
            due("five", all.sleepers(6, 0), 5);
            due("all others", all.sleepers(6, 1), 62);
        });
    }

    private void sleepers() {
        edge(23, "SLEEPERS, what 0: how many, 1: which, as bits.", () -> {
            YawnRoute x = Check.of(FORK);
            due("none are to be, as it sleeps anyhow", x.sleepers(3, 0), 0);
            due("no bits", x.sleepers(3, 1), 0);
            x.sleep(3);
            due("one", x.sleepers(3, 0), 1);
            due("1", x.sleepers(3, 1), 2);
        });
        edge(23, "NONE: none do;", () -> {
            YawnRoute x = Check.of(complete(7));
            due("a way straight on", x.sleepers(6, 0), NONE);
            due("a way straight on", x.sleepers(6, 1), NONE);
            due("where it is", x.sleepers(0, 0), NONE);
            due("where it is", x.sleepers(0, 1), NONE);
            x.sleep(0);
            due("where it is, asleep", x.sleepers(0, 1), NONE);
        });
        edge(23, "-2: the STATION, what; -5.", () -> {
            YawnRoute x = Check.of(TWO);
            for (int other : new int[] {-1, 2, 7, MIN, MAX}) {
                due("sleepers(" + other + ", 0)", x.sleepers(other, 0), -2);
                due("sleepers(0, " + other + ")", x.sleepers(0, other), -2);
            }
            due("nowhere", Check.of(NOWHERE).sleepers(1, 0), -5);
        });
    }
}
