/** Promises 29 to 37: routes back, what is told, turns, chances. */
final class BackEdges extends EdgePart {
    /** Two ways to 3 with 5, over 1 or over 2, and on to 4 alone. */
    private static final String FORKED = stations(5) + ways("01 02 13 23 34 40") + "at 0 size 5;";
    /** What 1 takes is 5 and its dullness. */
    private static final String DULLED = TWO + "passes:if station=1 then size+dull else size end;";

    BackEdges(Edges edges) {
        super(edges);
    }

    @Override
    void all() {
        back();
        backCall();
        backBy();
        surely();
        told();
        dulls();
        attempt();
        attemptCall();
        forcing();
        forces();
        best();
        lots();
        drawn();
        chance();
        likeliest();
    }

    private void back() {
        edge(29, "BACK: ROUTES of just n PASSINGS (1 to 10) behind which it is at a STATION with just a SIZE.", () -> {
            YawnRoute x = Check.of(TWO);
            for (int n = 1; n <= 10; n++) {
                due("back(" + n + ", 0, 5)", x.back(n, 0, 5), n % 2 == 0 ? 1 : 0);
                due("back(" + n + ", 1, 5)", x.back(n, 1, 5), n % 2 == 1 ? 1 : 0);
            }
            due("not with less", x.back(2, 0, 4), 0);
            due("not with more", x.back(2, 0, 6), 0);
            YawnRoute grows = Check.of(TWO + "passes:size+1;");
            due("grown by ten", grows.back(10, 0, 15), 1);
            due("not by nine", grows.back(10, 0, 14), 0);
            due("40 at most", Check.of(TWO + "passes:size*9;").back(10, 0, 40), 1);
        });
        edge(29, "ROUTES of just n PASSINGS", () -> {
            YawnRoute x = Check.of(FORKED);
            due("two", x.back(2, 3, 5), 2);
            due("two on to 4", x.back(3, 4, 5), 2);
            due("two to 0", x.back(4, 0, 5), 2);
            due("two times two", x.back(8, 0, 5), 4);
            due("none of five", x.back(5, 0, 5), 0);
            x.sleep(1);
            due("not by one asleep", x.back(8, 0, 5), 1);
            x.dull(2, 1);
            due("lost is nowhere", Check.of(TWO + "passes:0;").back(1, 0, 40), 0);
            due("with size 1", Check.of(TWO + "at 0 size 1;").back(9, 1, 1), 1);
            due("with size 40", Check.of(TWO + "at 0 size 40;").back(9, 1, 40), 1);
            due("lost ones are none", Check.of(FORKED + "passes:if station=2 then 0 else size end;").back(8, 0, 5), 1);
        });
    }

    private void backCall() {
        edge(29, "BACK: how many ROUTES.", () -> {
            YawnRoute x = Check.of(complete(7));
            due("none", x.back(1, 0, 5), 0);
            due("six", x.back(2, 0, 5), 6);
            due("of 6^10 routes some 7th and one more", x.back(10, 0, 5), 8638026);
            due("to each other one less", x.back(10, 6, 5), 8638025);
            due("none with that size: not NONE", x.back(10, 6, 6), 0);
            due("nothing is done", x.count(2) + x.count(6), 0);
        });
        edge(29, "-2; -3: n, the SIZE (1 to 40); -5.", () -> {
            YawnRoute x = Check.of(TWO);
            for (int other : new int[] {-1, 2, 7, MIN, MAX}) {
                due("back(1, " + other + ", 5)", x.back(1, other, 5), -2);
            }
            for (int other : new int[] {-1, 0, 11, MIN, MAX}) {
                due("back(" + other + ", 0, 5)", x.back(other, 0, 5), -3);
            }
            for (int other : new int[] {-1, 0, 41, MIN, MAX}) {
                due("back(1, 0, " + other + ")", x.back(1, 0, other), -3);
            }
            due("size 1", x.back(1, 0, 1), 0);
            due("size 40", x.back(1, 0, 40), 0);
            due("nowhere", Check.of(NOWHERE).back(1, 0, 5), -5);
        });
    }

    private void backBy() {
        edge(30, "The i-th STATION of the first of these.", () -> {
            YawnRoute x = Check.of(FORKED);
            int[] route = {1, 3, 4, 0, 1, 3, 4, 0};
            for (int i = 0; i < route.length; i++) {
                due("backBy(8, 0, 5, " + i + ")", x.backBy(8, 0, 5, i), route[i]);
            }
            x.sleep(1);
            due("of the others", x.backBy(8, 0, 5, 4), 2);
            YawnRoute all = Check.of(complete(7));
            due("the first station there is", all.backBy(3, 0, 5, 0), 1);
            due("not back at once", all.backBy(3, 0, 5, 1), 2);
            due("the tenth", all.backBy(10, 6, 5, 9), 6);
            due("by a size", Check.of(FORKED + "passes:if station=1 then 9 else size end;").backBy(2, 3, 5, 0), 2);
        });
        edge(30, "NONE: not so many, there are none; as back();", () -> {
            YawnRoute x = Check.of(FORKED);
            due("not so many", x.backBy(2, 3, 5, 2), NONE);
            due("not so many of ten", Check.of(complete(7)).backBy(10, 6, 5, 10), NONE);
            due("far too many", x.backBy(2, 3, 5, MAX), NONE);
            due("there are none", x.backBy(3, 3, 5, 0), NONE);
            due("there are none", x.backBy(2, 3, 6, 0), NONE);
            for (int other : new int[] {-1, 5, 7, MIN, MAX}) {
                due("backBy(1, " + other + ", 5, 0)", x.backBy(1, other, 5, 0), -2);
            }
            for (int other : new int[] {-1, 0, 11, MIN, MAX}) {
                due("backBy(" + other + ", 0, 5, 0)", x.backBy(other, 0, 5, 0), -3);
            }
            for (int other : new int[] {-1, 0, 41, MIN, MAX}) {
                due("backBy(1, 0, " + other + ", 0)", x.backBy(1, 0, other, 0), -3);
            }
            due("nowhere", Check.of(NOWHERE).backBy(1, 0, 5, 0), -5);
        });
        edge(30, "-3: also i is below 0.", () -> {
            YawnRoute x = Check.of(FORKED);
            due("-1", x.backBy(2, 3, 5, -1), -3);
            due("far below", x.backBy(2, 3, 5, MIN), -3);
            due("ahead of there being none", x.backBy(3, 3, 5, -1), -3);
            due("behind what back() refuses: nowhere", Check.of(NOWHERE).backBy(1, 0, 5, -1), -5);
        });
    }

    private void surely() {
        edge(31, "STATIONS to which it came in all of these, as bits (0: there are none).", () -> {
            YawnRoute x = Check.of(FORKED);
            due("3, by 1 or by 2", x.surely(2, 3, 5), 8);
            due("0, as it comes back, 3 and 4", x.surely(4, 0, 5), 25);
            due("not 0, as it doesn't come back", x.surely(3, 4, 5), 24);
            due("by 1 or by 2 in each round", x.surely(8, 0, 5), 25);
            due("none", x.surely(3, 3, 5), 0);
            x.sleep(2);
            due("now by 1", x.surely(4, 0, 5), 27);
            due("that one alone", Check.of(complete(7)).surely(10, 6, 5), 64);
            due("all seven", Check.of(stations(7) + ways("01 12 23 34 45 56 60") + "at 0 size 5;").surely(10, 3, 5), 127);
        });
        edge(31, "As back().", () -> {
            YawnRoute x = Check.of(TWO);
            for (int other : new int[] {-1, 2, 7, MIN, MAX}) {
                due("surely(1, " + other + ", 5)", x.surely(1, other, 5), -2);
            }
            for (int other : new int[] {-1, 0, 11, MIN, MAX}) {
                due("surely(" + other + ", 0, 5)", x.surely(other, 0, 5), -3);
            }
            for (int other : new int[] {-1, 0, 41, MIN, MAX}) {
                due("surely(1, 0, " + other + ")", x.surely(1, 0, other), -3);
            }
            due("nowhere", Check.of(NOWHERE).surely(1, 0, 5), -5);
        });
    }

    private int dulls(String net, int s, int size, long... route) {
        YawnRoute x = Check.of(net);
        Check.tray(x, 0, route);
        return x.dulls(0, s, size);
    }

    private void told() {
        edge(32, "TOLD in a TRAY (1 to 10 STATIONS): a ROUTE, behind which it has just a SIZE:", () -> {
            due("one", dulls(DULLED, 1, 7, 1), 4);
            due("ten", dulls(DULLED, 1, 15, 1, 0, 1, 0, 1, 0, 1, 0, 1, 0), 4);
            due("no such size", dulls(DULLED, 1, 16, 1, 0, 1, 0, 1, 0, 1, 0, 1, 0), 0);
            due("not with less", dulls(DULLED, 1, 4, 1), 0);
            due("no route, as no way leads there", dulls(DULLED, 1, 5, 0), 0);
            due("no route, as it sleeps", dulls("net;station;station asleep;way 0 1;at 0 size 5;", 1, 5, 1), 0);
            due("no route, as it is lost", dulls(stations(3) + ways("01 12 20") + "at 0 size 5;passes:if station=2 then 0 else size end;",
                0, 5, 1, 2, 0), 0);
            due("nor though it would be of that size then", dulls(stations(3) + ways("01 12 20")
                + "at 0 size 5;passes:if station=2 then 0 else 5 end;", 0, 5, 1, 2, 0), 0);
            due("over size 1", dulls(TWO + "passes:if station=1 then 1 else 7 end;", 0, 7, 1, 0), 1023);
            due("to size 1", dulls(TWO + "passes:1;", 1, 1, 1, 0), 1023);
            due("to size 40", dulls(TWO + "passes:40;", 1, 40, 1, 0), 1023);
            due("nor is it one to be lost in the end", dulls(DULLED + "passes:0;", 1, 1, 1), 0);
        });
        edge(32, "DULL 0 to 9 of a STATION by which it can be so.", () -> {
            due("0", dulls(DULLED, 1, 5, 1), 1);
            due("9", dulls(DULLED, 1, 14, 1), 512);
            due("not 10", dulls(DULLED, 1, 15, 1), 0);
            due("by the law", dulls(TWO + "takes:dull<5;", 1, 5, 1), 31);
            due("all, as it isn't on the route", dulls(stations(3) + "way 0 1;at 0 size 5;", 2, 5, 1), 1023);
            due("all, though it is", dulls(TWO, 1, 5, 1), 1023);
            due("some, as 40 is most", dulls(TWO + "passes:size*dull;", 1, 40, 1), 768);
            due("twice there", dulls(DULLED, 1, 11, 1, 0, 1), 8);
            YawnRoute x = Check.of("net;station dull 2;station dull 6;way 0 1;way 1 0;at 0 size 5;passes:size+dull;");
            Check.tray(x, 0, 1, 0);
            due("the other is as dull as it is", x.dulls(0, 1, 10), 8);
            due("that one, too", x.dulls(0, 0, 13), 4);
            due("nothing is done", x.station(1, 0) * 10 + x.count(2) + x.count(6), 60);
        });
    }

    private void dulls() {
        edge(32, "TOLD: DULL, as bits. -2: the TRAY, the STATION; -6;", () -> {
            YawnRoute x = Check.of(DULLED);
            Check.tray(x, 0, 1);
            due("as bits", x.dulls(0, 1, 13), 256);
            for (int other : new int[] {-1, 4, MIN, MAX}) {
                due("dulls(" + other + ", 1, 5)", x.dulls(other, 1, 5), -2);
            }
            for (int other : new int[] {-1, 2, 7, MIN, MAX}) {
                due("dulls(0, " + other + ", 5)", x.dulls(0, other, 5), -2);
            }
            for (int tray = 1; tray < 4; tray++) {
                due("missing, " + tray, x.dulls(tray, 1, 5), -6);
            }
        });
        edge(32, "-4: not 1 to 10 numbers;", () -> {
            YawnRoute x = Check.of(DULLED);
            for (int n : new int[] {0, 1, 10, 11, 40}) {
                x.numbers(0, 0, n);
                for (int i = 0; i < n; i++) {
                    x.write(0, i, (i + 1) % 2);
                }
                due(n + " numbers", x.dulls(0, 1, 5), n == 0 || n > 10 ? -4 : 1);
            }
        });
        edge(32, "-3: one is no STATION, the SIZE (1 to 40); -5.", () -> {
            YawnRoute x = Check.of(DULLED);
            for (long other : new long[] {-1, 2, 7, 1L << 32, (1L << 32) + 1, Long.MIN_VALUE, Long.MAX_VALUE}) {
                Check.tray(x, 0, 1, 0, other);
                due("one is " + other, x.dulls(0, 1, 5), -3);
            }
            Check.tray(x, 0, 1);
            for (int other : new int[] {-1, 0, 41, MIN, MAX}) {
                due("dulls(0, 1, " + other + ")", x.dulls(0, 1, other), -3);
            }
            due("size 1", x.dulls(0, 1, 1), 0);
            due("size 40", x.dulls(0, 1, 40), 0);
            YawnRoute y = Check.of(NOWHERE);
            Check.tray(y, 0, 1);
            due("nowhere", y.dulls(0, 1, 5), -5);
        });
    }

    /** All ten dullnesses of 2 are left: two sums tell what passing to it from 0 and from 1 brings. */
    private int attempt(String from0, String from1) {
        YawnRoute x = Check.of(stations(4) + "way 0 2;way 1 2;way 0 3;at 0 size 9;passes:if station=3 then 9 else if from=0 then "
            + from0 + " else " + from1 + " end end;");
        Check.tray(x, 0, 3);
        return x.attempt(0, 2, 9);
    }

    private void attempt() {
        edge(33, "From which STATION, being there with that SIZE, it should PASS to that one next:", () -> {
            due("from 1 each dullness shows", attempt("1", "dull+1"), 1);
            due("from 0 each dullness shows", attempt("dull+1", "1"), 0);
            due("with that size, 9", attempt("if size=9 then dull+1 else 1 end", "5"), 0);
            YawnRoute x = Check.of(stations(4) + "way 0 2;way 1 2;way 0 3;at 0 size 9;"
                + "passes:if station=3 then 4 else if from=0 then size else size+dull end end;");
            Check.tray(x, 0, 3);
            due("not where it is, nor with the size it has", x.attempt(0, 2, 4), 1);
        });
        edge(33, "the greatest number of these DULL by which it would have the same SIZE then", () -> {
            due("5 against 6", attempt("if dull<5 then 1 else dull end", "if dull<6 then 1 else dull end"), 0);
            due("6 against 5", attempt("if dull<6 then 1 else dull end", "if dull<5 then 1 else dull end"), 1);
            due("5 and 5 against 4, 3 and 3", attempt("if dull<5 then 1 else 2 end",
                "if dull<4 then 1 else if dull<7 then 2 else 3 end end"), 1);
            due("0 and 1 alike against none", attempt("if dull<2 then 1 else dull+1 end", "dull+1"), 1);
            due("8 and 9 alike against none", attempt("if dull<8 then dull+1 else 9 end", "dull+1"), 1);
            due("all that is above 40 is 40", attempt("39+dull", "if dull<8 then 1 else 2 end"), 1);
            YawnRoute x = Check.of(stations(3) + "way 0 2;way 1 2;at 0 size 9;takes:dull<4;"
                + "passes:if from=0 then 9 else if dull<4 then dull+1 else 1 end end;");
            Check.tray(x, 0, 2);
            due("only these: 4 alike against none", x.attempt(0, 2, 9), 1);
        });
        edge(33, "(lost, or it can't: 0)", () -> {
            due("5 lost and 5 of size 1 are not alike", attempt("if dull<5 then 0 else 1 end", "if dull<6 then 2 else dull end"), 0);
            due("4 and 5 lost are 9, against 8 alike", attempt("if dull<5 then 0 else if dull<9 then 0-dull else 1 end end",
                "if dull<8 then 7 else dull end"), 1);
            YawnRoute x = Check.of(stations(4) + "way 0 2;way 1 2;way 0 3;at 0 size 9;takes:station=3 or from=1 or dull<5;"
                + "passes:if station=3 then 9 else if from=1 then if dull<7 then 1 else dull end else if dull<3 then 0 else dull end end end;");
            Check.tray(x, 0, 3);
            due("3 lost and 5 that can't are 8, against 7", x.attempt(0, 2, 9), 1);
            x.sleep(2);
            due("it sleeps, so none can: all alike, the first", x.attempt(0, 2, 9), 0);
        });
        edge(33, "is least, of STATIONS from which a way leads there the first.", () -> {
            due("alike: the first", attempt("dull+1", "dull+2"), 0);
            due("all alike: the first", attempt("3", "4"), 0);
            YawnRoute x = Check.of(stations(4) + "way 1 2;way 3 2;way 0 3;way 2 0;at 0 size 9;"
                + "passes:if station=3 then 9 else if from=1 then 5 else if from=3 then 6 else dull+1 end end end;");
            Check.tray(x, 0, 3);
            due("not from 0, from which none leads there", x.attempt(0, 2, 9), 1);
            due("from 2 alone", x.attempt(0, 0, 9), 2);
        });
    }

    private void attemptCall() {
        edge(33, "NONE: there are no DULL, no such STATIONS; as dulls().", () -> {
            YawnRoute x = Check.of(DULLED);
            Check.tray(x, 0, 1);
            due("no dullness", x.attempt(0, 1, 15), NONE);
            due("one", x.attempt(0, 1, 14), 0);
            YawnRoute none = Check.of(stations(3) + "way 0 1;at 0 size 5;");
            Check.tray(none, 0, 1);
            due("no way leads there", none.attempt(0, 2, 5), NONE);
            for (int other : new int[] {-1, 4, MIN, MAX}) {
                due("attempt(" + other + ", 1, 5)", x.attempt(other, 1, 5), -2);
            }
            for (int other : new int[] {-1, 2, 7, MIN, MAX}) {
                due("attempt(0, " + other + ", 5)", x.attempt(0, other, 5), -2);
            }
            due("missing", x.attempt(1, 1, 5), -6);
            Check.tray(x, 2);
            due("no numbers", x.attempt(2, 1, 5), -4);
            x.numbers(2, 0, 11);
            due("eleven", x.attempt(2, 1, 5), -4);
            Check.tray(x, 2, 1, 2);
            due("one is no station", x.attempt(2, 1, 5), -3);
            for (int other : new int[] {-1, 0, 41, MIN, MAX}) {
                due("attempt(0, 1, " + other + ")", x.attempt(0, 1, other), -3);
            }
            YawnRoute y = Check.of(NOWHERE);
            Check.tray(y, 0, 1);
            due("nowhere", y.attempt(0, 1, 5), -5);
        });
    }

    private void forcing() {
        edge(34, "FORCING: professor and child by turns, the professor first: he PASSES it, or doesn't;", () -> {
            YawnRoute x = Check.of(FORK);
            due("he is first", x.forces(2), 1);
            due("and the other one", x.forces(1), 1);
            due("the law lets him", Check.of(TWO + "takes:1=2;").forces(1), NONE);
            due("lost it isn't there", Check.of(TWO + "passes:0;").forces(1), NONE);
            due("just not lost", Check.of(TWO + "passes:size-4;").forces(1), 1);
        });
        edge(34, "the child puts a STATION to SLEEP that doesn't (not where it is), or doesn't;", () -> {
            due("2 by two turns: 2 sleeps then", Check.of(stations(3) + ways("01 12") + "at 0 size 5;").forces(2), NONE);
            due("by many ways, too", Check.of(stations(7) + ways("01 02 03 04 05 16 26 36 46 56") + "at 0 size 5;").forces(6), NONE);
            YawnRoute x = Check.of(TWO);
            x.sleep(1);
            due("he wakes none", x.forces(1), NONE);
            x.sleep(0);
            due("where it is, asleep: it is there", x.forces(0), 0);
        });
        edge(34, "he FORCES it to a STATION within n turns of his (0 to 3), if he can PASS it so that it is there behind one of these", () -> {
            YawnRoute x = Check.of(complete(7));
            for (int s = 0; s < 7; s++) {
                due("forces(" + s + ")", x.forces(s), s == 0 ? 0 : 1);
            }
        });
        edge(34, "whatever the child does.", () -> {
            YawnRoute x = Check.of(stations(4) + ways("01 02 13 23 10 20") + "at 0 size 5;");
            due("3 is two on, by two ways", x.forces(3), NONE);
            due("he doesn't", x.best(3), NONE);
            x.pass(1);
            due("3 is next by now", x.forces(3), 1);
        });
    }

    private void forces() {
        edge(34, "FORCING: within how many turns, at fewest (0: it is there).", () -> {
            YawnRoute x = Check.of(TWO);
            String ahead = look(x);
            due("it is there", x.forces(0), 0);
            due("one", x.forces(1), 1);
            same("nothing is done", x, ahead);
        });
        edge(34, "NONE: not within 3; -2; -5.", () -> {
            YawnRoute x = Check.of(stations(5) + ways("01 12 23 34") + "at 0 size 5;");
            for (int s = 2; s < 5; s++) {
                due("forces(" + s + ")", x.forces(s), NONE);
            }
            for (int other : new int[] {-1, 5, 7, MIN, MAX}) {
                due("forces(" + other + ")", x.forces(other), -2);
            }
            due("nowhere", Check.of(NOWHERE).forces(0), -5);
        });
    }

    private void best() {
        edge(35, "The first STATION to which he PASSES it by which he does within as few (99: he doesn't PASS, behind all).", () -> {
            YawnRoute x = Check.of(complete(7));
            for (int s = 1; s < 7; s++) {
                due("to " + s + " at once, not to 1 and then there", x.best(s), s);
            }
        });
        edge(35, "NONE: he doesn't, it is there; -2; -5.", () -> {
            YawnRoute x = Check.of(stations(3) + ways("01 12") + "at 0 size 5;");
            due("he doesn't", x.best(2), NONE);
            due("it is there", x.best(0), NONE);
            x.sleep(1);
            due("he doesn't, as it sleeps", x.best(1), NONE);
            for (int other : new int[] {-1, 3, 7, MIN, MAX}) {
                due("best(" + other + ")", x.best(other), -2);
            }
            due("nowhere", Check.of(NOWHERE).best(0), -5);
        });
    }

    private void fraction(YawnRoute x, int s, int n, long above, long below) {
        due("chance(" + s + ", " + n + ", 0)", x.chance(s, n, 0), above);
        due("chance(" + s + ", " + n + ", 1)", x.chance(s, n, 1), below);
    }

    private void lots() {
        edge(36, "CHANCE: n times (0 to 6) one of ten lots is drawn, each as likely:", () -> {
            YawnRoute x = Check.of(stations(2) + "way 0 1 odds 5;way 1 0 odds 2;at 0 size 5;");
            fraction(x, 0, 0, 1, 1);
            fraction(x, 1, 0, 0, 1);
            fraction(x, 0, 1, 1, 2);
            fraction(x, 0, 2, 7, 20);
            fraction(x, 1, 2, 13, 20);
            fraction(x, 0, 3, 61, 200);
            fraction(x, 1, 3, 139, 200);
            fraction(Check.of(TWO), 0, 2, 41, 50);
            fraction(Check.of(stations(2) + "way 0 1;at 0 size 5;"), 0, 6, 531441, 1000000);
            fraction(Check.of(stations(2) + "way 0 1;at 0 size 5;"), 1, 6, 468559, 1000000);
        });
        edge(36, "the ways from where it is have as many lots as their odds tell", () -> {
            for (int odds = 1; odds < 10; odds++) {
                YawnRoute x = Check.of(stations(2) + "way 0 1 odds " + odds + ";at 0 size 5;");
                long common = odds == 5 ? 5 : odds % 2 == 0 ? 2 : 1;
                fraction(x, 1, 1, odds / common, 10 / common);
            }
            fraction(Check.of(stations(2) + "way 0 1 odds 0;at 0 size 5;"), 1, 6, 0, 1);
            fraction(Check.of(stations(2) + "way 0 1 odds 10;at 0 size 5;"), 1, 1, 1, 1);
            fraction(Check.of(stations(2) + "way 1 0 odds 10;at 0 size 5;"), 0, 6, 1, 1);
        });
        edge(36, "by the numbers of the STATIONS to which they lead, till all ten are given;", () -> {
            YawnRoute x = Check.of(stations(4) + "way 0 3 odds 6;way 0 2 odds 6;way 0 1 odds 3;at 0 size 5;");
            fraction(x, 1, 1, 3, 10);
            fraction(x, 2, 1, 3, 5);
            fraction(x, 3, 1, 1, 10);
            fraction(x, 0, 1, 0, 1);
            YawnRoute full = Check.of(stations(4) + "way 0 3 odds 6;way 0 2 odds 10;way 0 1 odds 0;at 0 size 5;");
            fraction(full, 2, 1, 1, 1);
            fraction(full, 3, 1, 0, 1);
        });
    }

    private void drawn() {
        edge(36, "to whose lot is drawn it PASSES, if it can (by a lot of none it stays, so it does if it can't; lost it stays lost):", () -> {
            YawnRoute x = Check.of("net;station;station asleep;station;way 0 1 odds 6;way 0 2 odds 6;at 0 size 5;");
            fraction(x, 0, 1, 3, 5);
            fraction(x, 1, 1, 0, 1);
            fraction(x, 2, 1, 2, 5);
            YawnRoute law = Check.of(stations(2) + "way 0 1 odds 4;way 1 0 odds 4;at 0 size 5;takes:station=1;");
            fraction(law, 1, 2, 16, 25);
            YawnRoute lost = Check.of(stations(2) + "way 0 1 odds 5;way 1 0 odds 5;at 0 size 5;passes:0;");
            fraction(lost, 0, 1, 1, 2);
            fraction(lost, 1, 1, 0, 1);
            fraction(lost, 0, 6, 1, 64);
        });
        edge(36, "how likely it is at a STATION then, in lowest terms.", () -> {
            YawnRoute sizes = Check.of(stations(3) + "way 0 1 odds 2;way 0 2 odds 4;way 2 1 odds 10;at 0 size 5;"
                + "passes:if from=2 then 9 else size end;");
            fraction(sizes, 1, 2, 17, 25);
            fraction(sizes, 0, 2, 4, 25);
            fraction(sizes, 2, 2, 4, 25);
            fraction(Check.of(ALONE), 0, 6, 1, 1);
            YawnRoute small = Check.of(stations(3) + "way 1 2 odds 5;at 1 size 1;");
            fraction(small, 1, 1, 1, 2);
            fraction(small, 2, 1, 1, 2);
            YawnRoute big = Check.of(stations(3) + "way 1 2 odds 4;way 1 0 odds 4;at 1 size 40;");
            fraction(big, 0, 1, 2, 5);
            fraction(big, 1, 1, 1, 5);
            fraction(big, 2, 1, 2, 5);
            YawnRoute x = Check.of(TWO);
            x.chance(0, 6, 0);
            due("nothing is done", x.count(2) * 10 + x.count(6), 0);
        });
    }

    private void chance() {
        edge(36, "CHANCE, what 0: the number above, 1: below.", () -> {
            YawnRoute x = Check.of(stations(2) + "way 0 1 odds 3;at 0 size 5;");
            due("above", x.chance(1, 1, 0), 3);
            due("below", x.chance(1, 1, 1), 10);
        });
        edge(36, "-2: the STATION, what; -3: n; -5.", () -> {
            YawnRoute x = Check.of(TWO);
            for (int other : new int[] {-1, 2, 7, MIN, MAX}) {
                due("chance(" + other + ", 1, 0)", x.chance(other, 1, 0), -2);
                due("chance(0, 1, " + other + ")", x.chance(0, 1, other), -2);
            }
            for (int other : new int[] {-1, 7, MIN, MAX}) {
                due("chance(0, " + other + ", 0)", x.chance(0, other, 0), -3);
            }
            due("0 times", x.chance(0, 0, 0), 1);
            due("6 times", x.chance(0, 6, 1) > 1 ? 1 : 0, 1);
            due("nowhere", Check.of(NOWHERE).chance(0, 1, 0), -5);
        });
    }

    private void likeliest() {
        edge(37, "The STATION at which it is likeliest then, the first.", () -> {
            YawnRoute x = Check.of(stations(3) + "way 2 0 odds 2;way 2 1 odds 5;at 2 size 5;");
            due("now", x.likeliest(0), 2);
            due("5 of 10", x.likeliest(1), 1);
            due("of like ones the first", Check.of(stations(3) + "way 2 1 odds 5;at 2 size 5;").likeliest(1), 1);
            due("of like ones the first", Check.of(stations(3) + "way 0 2 odds 4;way 0 1 odds 3;at 0 size 5;"
                + "way 0 2 odds 3;").likeliest(1), 0);
            due("all its sizes together", Check.of(stations(4) + "way 0 1 odds 4;way 0 2 odds 3;way 0 3 odds 3;way 2 3 odds 10;"
                + "at 0 size 5;passes:if from=2 then 9 else size end;").likeliest(2), 3);
            due("less likely than being lost", Check.of(TWO + "passes:0;way 0 1 odds 9;").likeliest(6), 0);
        });
        edge(37, "NONE: it surely is lost; -3; -5.", () -> {
            YawnRoute x = Check.of(TWO + "passes:0;way 0 1 odds 10;");
            due("lost", x.likeliest(1), NONE);
            due("lost", x.likeliest(6), NONE);
            due("not yet", x.likeliest(0), 0);
            for (int other : new int[] {-1, 7, MIN, MAX}) {
                due("likeliest(" + other + ")", x.likeliest(other), -3);
            }
            due("nowhere", Check.of(NOWHERE).likeliest(0), -5);
            due("no stations", new YawnRoute().likeliest(6), -5);
        });
    }
}
