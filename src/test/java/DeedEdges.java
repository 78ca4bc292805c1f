/** Promises 9 to 15: letting it off, sleep, dullness, undoing, deeds in trays, seasons. */
final class DeedEdges extends EdgePart {
    DeedEdges(Edges edges) {
        super(edges);
    }

    @Override
    void all() {
        off();
        sleep();
        dull();
        whatCanBeUndone();
        whatIsBroughtBack();
        undo();
        deedsInTrays();
        judge();
        perform();
        draws();
        drawnDeeds();
        season();
    }

    private void off() {
        edge(9, "To LET it OFF: it is at a STATION (SLEEPING or not) with a SIZE, whatever was.", () -> {
            YawnRoute x = Check.of("net;station;station asleep;way 0 1;at 0 size 5;takes:1=2;passes:1;");
            due("elsewhere, asleep", x.off(1, 30), 0);
            due("there", x.count(2), 1);
            due("the laws aren't asked", x.count(3), 30);
            due("where it is", x.off(1, 3), 0);
            due("a smaller size", x.count(3), 3);
            due("without a way", x.off(0, 4), 0);
            due("there", x.count(2), 0);
            YawnRoute y = Check.of(NOWHERE);
            due("from nowhere", y.off(1, 7), 0);
            due("there", y.count(2), 1);
            YawnRoute lost = Check.of(TWO + "passes:0;");
            lost.pass(1);
            due("behind it was lost", lost.off(0, 8), 1);
            due("its size", lost.count(3), 8);
        });
        edge(9, "To LET it OFF: the HOURS so far.", () -> {
            YawnRoute x = Check.of("net;station;station;way 0 1 hours 4;way 1 0 hours 9;at 0 size 5;");
            due("none", x.off(0, 1), 0);
            x.pass(1);
            x.pass(0);
            due("4 and 9", x.off(1, 1), 13);
            due("they stay", x.count(5), 13);
            due("and again", x.off(1, 1), 13);
        });
        edge(9, "-11.", () -> {
            YawnRoute x = Check.of(TWO);
            String ahead = look(x);
            for (int other : new int[] {-1, 2, 7, MIN, MAX}) {
                due("off(" + other + ", 1)", x.off(other, 1), -11);
            }
            for (int other : new int[] {-1, 0, 41, MIN, MAX}) {
                due("off(0, " + other + ")", x.off(0, other), -11);
            }
            due("both", x.off(2, 41), -11);
            same("nothing is done", x, ahead);
            due("size 1", x.off(0, 1), 0);
            due("size 40", x.off(0, 40), 0);
        });
    }

    private void sleep() {
        edge(10, "To put a STATION to SLEEP, or to WAKE it.", () -> {
            YawnRoute x = Check.of("net;station;station asleep;station;at 2 size 5;");
            x.sleep(0);
            x.sleep(1);
            x.sleep(2);
            due("who slept wakes, who didn't sleeps, where it is, too", x.count(4), 5);
            due("it stays where it is", x.count(2), 2);
        });
        edge(10, "To fall asleep or to WAKE: 1 if it SLEEPS then, else 0.", () -> {
            YawnRoute x = Check.of(TWO);
            due("falls asleep", x.sleep(1), 1);
            due("wakes", x.sleep(1), 0);
            due("falls asleep", x.sleep(1), 1);
        });
        edge(10, "-11.", () -> {
            YawnRoute x = Check.of(TWO);
            String ahead = look(x);
            for (int other : new int[] {-1, 2, 7, 32, MIN, MAX}) {
                due("sleep(" + other + ")", x.sleep(other), -11);
            }
            same("nothing is done", x, ahead);
        });
    }

    private void dull() {
        edge(11, "To be as DULL.", () -> {
            YawnRoute x = Check.of("net;station dull 3;station dull 4;");
            x.dull(1, 7);
            due("by now", x.station(1, 0), 7);
            due("the other one", x.station(0, 0), 3);
        });
        edge(11, "To be as DULL (0 to 9): how it was.", () -> {
            YawnRoute x = Check.of("net;station dull 3;");
            due("0", x.dull(0, 0), 3);
            due("9", x.dull(0, 9), 0);
            due("9 again", x.dull(0, 9), 9);
            due("by now", x.station(0, 0), 9);
        });
        edge(11, "-11.", () -> {
            YawnRoute x = Check.of(TWO);
            String ahead = look(x);
            for (int other : new int[] {-1, 2, 7, MIN, MAX}) {
                due("dull(" + other + ", 1)", x.dull(other, 1), -11);
            }
            for (int other : new int[] {-1, 10, MIN, MAX}) {
                due("dull(0, " + other + ")", x.dull(0, other), -11);
            }
            same("nothing is done", x, ahead);
        });
    }

    private void whatCanBeUndone() {
        edge(12, "Calls of pass(), off(), sleep(), dull() that aren't refused", () -> {
            YawnRoute x = Check.of(TWO);
            x.pass(1);
            due("pass", x.count(6), 1);
            x.off(0, 1);
            due("off", x.count(6), 2);
            x.sleep(0);
            due("sleep", x.count(6), 3);
            x.dull(0, 1);
            due("dull", x.count(6), 4);
            x.pass(0);
            x.off(0, 0);
            x.sleep(2);
            x.dull(0, 10);
            due("refused ones", x.count(6), 4);
            due("the latest is dull() still", x.undo(1), 3);
            due("as dull as ahead", x.station(0, 0), 0);
        });
        edge(12, "Calls of pass(), off(), sleep(), dull() that aren't refused", () -> {
            YawnRoute x = Check.of(TWO);
            for (int i = 1; i <= 10; i++) {
                x.off(0, 10 + i);
            }
            for (int i = 0; i < 5; i++) {
                due("a refused one", x.pass(0), -12);
                due("a refused one", x.off(2, 1), -11);
                due("a refused one", x.sleep(2), -11);
                due("a refused one", x.dull(2, 1), -11);
                due("one that does nothing", x.season(7, 1), 0);
            }
            due("nothing is forgotten for their sake", x.undo(10), 0);
            due("its size at first", x.count(3), 5);
        });
        for (int kind = 0; kind < 6; kind++) {
            undoneAlone(kind);
        }
        edge(12, "(even if all is as it was)", () -> {
            YawnRoute x = Check.of(TWO);
            x.off(0, 5);
            due("off, where it is with that size", x.count(6), 1);
            x.dull(0, 0);
            due("dull, as dull as it is", x.count(6), 2);
            Check.tray(x, 0, 1005, 100);
            x.perform(0);
            due("perform, the same", x.count(6), 3);
            due("all undone", x.undo(3), 0);
        });
        edge(12, "of perform(), season() that did one thing at least, can be UNDONE", () -> {
            YawnRoute x = Check.of(TWO);
            Check.tray(x, 0);
            x.perform(0);
            Check.tray(x, 0, 20, 1);
            x.perform(0);
            due("perform that did none", x.count(6), 0);
            Check.tray(x, 0, 1, 20, 0);
            x.perform(0);
            due("perform that did one of three", x.count(6), 1);
            due("seed 7 passes to 6, which isn't there", x.season(7, 1), 0);
            due("a season that did none", x.count(6), 1);
            due("seed 38: 0 falls asleep", x.season(38, 1), 1);
            due("a season that did one", x.count(6), 2);
            due("judge", x.judge(0, 0), 0);
            due("is none of them", x.count(6), 2);
        });
        edge(12, "each as a whole, the latest first", () -> {
            YawnRoute x = Check.of(TWO);
            Check.tray(x, 0, 1, 10, 113, 1009);
            due("four deeds", x.perform(0), 4);
            x.off(1, 8);
            due("the latest alone", x.undo(1), 1);
            due("its size as behind the four", x.count(3), 9);
            due("the four at once", x.undo(1), 0);
            due("at 0, size 5, no hours, none asleep, not dull", x.count(2) + x.count(3) + x.count(5) + x.count(4) + x.station(1, 0), 5);
            due("a season of forty", x.season(1, 40) > 1 ? 1 : 0, 1);
            due("one call", x.count(6), 1);
            x.undo(1);
            due("undone at once", x.count(2) + x.count(3) + x.count(5) + x.count(4) + x.station(0, 0), 5);
        });
        edge(12, "10 at most (eldest are forgotten):", () -> {
            YawnRoute x = Check.of(TWO);
            for (int i = 1; i <= 25; i++) {
                x.off(0, i);
                due("calls that can be undone behind " + i, x.count(6), Math.min(i, 10));
            }
            due("eleven", x.undo(11), -3);
            due("ten", x.undo(10), 0);
            due("as behind the fifteenth", x.count(3), 15);
            due("the eldest are forgotten", x.undo(1), -3);
            for (int i = 30; i <= 40; i++) {
                x.off(1, i);
            }
            due("three of eleven", x.undo(3), 7);
            due("as behind the eighth", x.count(3), 37);
            x.off(0, 1);
            x.off(0, 2);
            x.off(0, 3);
            due("ten again", x.count(6), 10);
            due("all of them", x.undo(10), 0);
            due("as behind the first of the eleven", x.count(3), 30);
        });
    }

    /** One deed of each kind is undone while others stand behind it and ahead of it. */
    private void undoneAlone(int kind) {
        edge(12, "Calls of pass(), off(), sleep(), dull() that aren't refused", () -> {
            YawnRoute x = Check.of(TWO);
            x.sleep(0);
            x.off(0, 7);
            Check.tray(x, 0, 1, 115);
            String ahead = look(x);
            switch (kind) {
                case 0: x.pass(1); break;
                case 1: x.off(1, 9); break;
                case 2: x.sleep(1); break;
                case 3: x.dull(1, 9); break;
                case 4: x.perform(0); break;
                default: x.season(13, 5); break;
            }
            due("one more", x.count(6), 3);
            due("it is undone", x.undo(1), 2);
            same("as ahead of it", x, ahead);
            due("both ahead of it", x.undo(2), 0);
            due("as at first", x.count(3) * 10 + x.count(4), 50);
        });
    }

    private void whatIsBroughtBack() {
        edge(12, "where it is, SIZE, HOURS, who SLEEPS, how DULL all are.", () -> {
            YawnRoute x = Check.of(FORK);
            String ahead = look(x);
            x.pass(1);
            x.pass(2);
            x.off(3, 33);
            for (int s = 0; s < 4; s++) {
                x.sleep(s);
            }
            x.dull(0, 9);
            x.dull(1, 8);
            Check.tray(x, 0, 120, 137);
            x.perform(0);
            x.undo(10);
            due("as at first", look(x).equals(ahead) ? 1 : 0, 1);
        });
        edge(12, "where it is, SIZE, HOURS", () -> {
            YawnRoute x = Check.of(TWO + "passes:0;");
            x.pass(1);
            due("lost", x.count(2), NONE);
            x.undo(1);
            due("there again", x.count(2), 0);
            due("its size", x.count(3), 5);
            due("its hours", x.count(5), 0);
            YawnRoute y = Check.of(NOWHERE);
            y.off(1, 3);
            y.undo(1);
            due("nowhere again", y.count(2), NONE);
            due("without a size", y.count(3), 0);
        });
        edge(12, "where it is, SIZE, HOURS, who SLEEPS, how DULL all are.", () -> {
            YawnRoute x = Check.of(TWO);
            x.off(1, 3);
            Check.tray(x, 0, 10);
            x.image(0);
            x.feed(1, 2, 3, 4, 5);
            x.undo(1);
            due("trays are none of it", x.judge(0, 1), 0);
            due("nor the tape", x.count(7), 20);
            due("nor images", x.restore(0), 0);
            due("of the time ahead", x.count(2), 1);
        });
    }

    private void undo() {
        edge(12, "n calls (1 to 10) are UNDONE: how many still can be.", () -> {
            YawnRoute x = Check.of(TWO);
            for (int i = 1; i <= 10; i++) {
                x.off(0, i);
            }
            due("1", x.undo(1), 9);
            due("size", x.count(3), 9);
            due("4", x.undo(4), 5);
            due("size", x.count(3), 5);
            due("5", x.undo(5), 0);
            due("size at first", x.count(3), 5);
            for (int i = 1; i <= 10; i++) {
                x.off(0, 40 - i);
            }
            due("10", x.undo(10), 0);
            due("size at first", x.count(3), 5);
        });
        edge(12, "-3: n, more than can be.", () -> {
            YawnRoute x = Check.of(TWO);
            due("none can be", x.undo(1), -3);
            x.off(1, 2);
            x.off(1, 3);
            String ahead = look(x);
            for (int n : new int[] {0, -1, 3, 10, 11, MIN, MAX}) {
                due("undo(" + n + ")", x.undo(n), -3);
            }
            same("nothing is undone", x, ahead);
            due("undo(2)", x.undo(2), 0);
        });
    }

    private static int why(YawnRoute x, long deed) {
        Check.tray(x, 3, deed);
        return x.judge(3, 1);
    }

    private void deedsInTrays() {
        edge(13, "DEEDS in a TRAY: 0 to 9: it PASSES to STATION v;", () -> {
            YawnRoute x = Check.of(complete(7));
            for (int v = 0; v <= 9; v++) {
                due("deed " + v, why(x, v), v == 0 ? 2 : v < 7 ? 0 : 1);
                due("where it is then", x.judge(3, 2), v < 7 ? v : 0);
            }
        });
        edge(13, "10 to 19: STATION v - 10 falls asleep, or wakes;", () -> {
            YawnRoute x = Check.of(complete(7));
            for (int v = 10; v <= 19; v++) {
                due("deed " + v, why(x, v), v < 17 ? 0 : 1);
                Check.tray(x, 2, v, v - 10);
                due("then it can't pass there", x.judge(2, 1), v == 10 ? 2 : v < 17 ? 3 : 1);
                Check.tray(x, 2, v, v, v - 10);
                due("it wakes", x.judge(2, 1), v == 10 ? 2 : v < 17 ? 0 : 1);
            }
        });
        edge(13, "100 to 199: STATION (v - 100) by 10 is v modulo 10 DULL;", () -> {
            for (int v = 100; v <= 199; v++) {
                YawnRoute x = Check.of(stations(7));
                due("deed " + v, why(x, v), v < 170 ? 0 : 1);
                due("done", x.perform(3), v < 170 ? 1 : 0);
                due("so dull", x.station(v / 10 - 10, 0), v < 170 ? v % 10 : -2);
            }
        });
        edge(13, "1000 to 1999: it is LET OFF at STATION (v - 1000) by 100 with SIZE v modulo 100;", () -> {
            for (int v = 1000; v <= 1999; v += v % 100 == 1 ? 38 : 1) {
                YawnRoute x = Check.of(stations(7));
                int s = v / 100 - 10;
                int size = v % 100;
                boolean can = s < 7 && size >= 1 && size <= 40;
                due("deed " + v, why(x, v), can ? 0 : 1);
                due("where it is then", x.judge(3, 2), can ? s : NONE);
                due("its size then", x.judge(3, 3), can ? size : 0);
            }
        });
        edge(13, "others: 1.", () -> {
            YawnRoute x = Check.of(complete(7));
            for (long v : new long[] {-1, -10, -100, 20, 21, 50, 99, 200, 201, 500, 999, 2000, 2001, 10000,
                MIN, MAX, Long.MIN_VALUE, Long.MAX_VALUE, 1L << 32, (1L << 32) + 1, (1L << 32) + 10}) {
                due("deed " + v, why(x, v), 1);
                due("done", x.perform(3), 0);
            }
        });
        edge(13, "Why not: 1 no such STATION, SIZE, dullness. 2 it is nowhere, no way leads there (PASS). 3 that STATION SLEEPS. 4 the law takes.", () -> {
            YawnRoute x = Check.of("net;station;station;station asleep;station dull 9;way 0 2;way 0 3;at 0 size 5;takes:dull<9;");
            due("no such station", why(x, 4), 1);
            due("no way", why(x, 1), 2);
            due("asleep", why(x, 2), 3);
            due("the law", why(x, 3), 4);
            due("nowhere", why(Check.of(NOWHERE), 1), 2);
        });
    }

    private void judge() {
        edge(13, "DEEDS, judged as if done up to the first that can't be, what 0: the first place that can't be (NONE)", () -> {
            YawnRoute x = Check.of(TWO);
            String ahead = look(x);
            Check.tray(x, 0, 1, 0, 1, 1, 0, 99);
            due("the fourth", x.judge(0, 0), 3);
            Check.tray(x, 0, 20, 1);
            due("the first", x.judge(0, 0), 0);
            Check.tray(x, 0, 1, 0, 1, 0);
            due("none", x.judge(0, 0), NONE);
            Check.tray(x, 0);
            due("none of none", x.judge(0, 0), NONE);
            long[] forty = new long[40];
            for (int i = 0; i < 40; i++) {
                forty[i] = (i + 1) % 2;
            }
            Check.tray(x, 0, forty);
            due("none of forty", x.judge(0, 0), NONE);
            x.write(0, 39, 1);
            due("the fortieth", x.judge(0, 0), 39);
            same("nothing is done", x, ahead);
        });
        edge(13, "1: why (0)", () -> {
            YawnRoute x = Check.of(FORK);
            Check.tray(x, 0, 1, 3);
            due("it sleeps", x.judge(0, 1), 3);
            Check.tray(x, 0, 1, 2);
            due("all can be", x.judge(0, 1), 0);
            Check.tray(x, 0);
            due("none can't", x.judge(0, 1), 0);
        });
        edge(13, "2: where it is then (NONE)", () -> {
            YawnRoute x = Check.of(TWO + "passes:if station=0 then 0 else 5 end;");
            Check.tray(x, 0, 1, 1);
            due("ahead of the one that can't be", x.judge(0, 2), 1);
            Check.tray(x, 0, 1, 0);
            due("lost", x.judge(0, 2), NONE);
            Check.tray(x, 0);
            due("none done", x.judge(0, 2), 0);
            Check.tray(x, 0, 1, 0, 1005, 99, 1);
            due("let off anew", x.judge(0, 2), 0);
        });
        edge(13, "3: its SIZE then (0: nowhere).", () -> {
            YawnRoute x = Check.of(TWO + "passes:size-2;");
            Check.tray(x, 0, 1, 0, 0);
            due("5, 3, 1", x.judge(0, 3), 1);
            Check.tray(x, 0, 1, 0, 1);
            due("lost", x.judge(0, 3), 0);
            Check.tray(x, 0, 1, 0, 1, 0);
            due("lost, and then it can't pass", x.judge(0, 3), 0);
            YawnRoute y = Check.of(NOWHERE);
            Check.tray(y, 0);
            due("nowhere", y.judge(0, 3), 0);
        });
        edge(13, "-2: the TRAY, what; -6.", () -> {
            YawnRoute x = Check.of(TWO);
            Check.tray(x, 0, 1);
            for (int other : new int[] {-1, 4, MIN, MAX}) {
                due("judge(" + other + ", 0)", x.judge(other, 0), -2);
                due("judge(0, " + other + ")", x.judge(0, other), -2);
            }
            for (int tray = 1; tray < 4; tray++) {
                due("missing, " + tray, x.judge(tray, 0), -6);
            }
        });
    }

    private void perform() {
        edge(14, "They are done, till one can't be: how many.", () -> {
            YawnRoute x = Check.of(TWO);
            Check.tray(x, 0, 1, 10, 117, 1, 11);
            due("three", x.perform(0), 3);
            due("it is there", x.count(2), 1);
            due("0 sleeps, 1 doesn't", x.count(4), 1);
            due("dull", x.station(1, 0), 7);
            due("again: it can't pass to 1", x.perform(0), 0);
            Check.tray(x, 0);
            due("none of none", x.perform(0), 0);
            long[] forty = new long[40];
            java.util.Arrays.fill(forty, 10);
            Check.tray(x, 0, forty);
            due("forty", x.perform(0), 40);
            due("0 fell asleep as often as it woke", x.count(4), 1);
        });
        edge(14, "They are done, till one can't be", () -> {
            YawnRoute x = Check.of(TWO + "passes:0;");
            Check.tray(x, 0, 1, 0, 10);
            due("lost, so it can't pass on", x.perform(0), 1);
            due("nowhere", x.count(2), NONE);
            due("none sleeps", x.count(4), 0);
            due("its hours", x.count(5), 1);
        });
        edge(14, "-2; -6.", () -> {
            YawnRoute x = Check.of(TWO);
            for (int other : new int[] {-1, 4, MIN, MAX}) {
                due("perform(" + other + ")", x.perform(other), -2);
            }
            for (int tray = 0; tray < 4; tray++) {
                due("missing, " + tray, x.perform(tray), -6);
            }
        });
    }

    private void oneDrawn(int seed, int where, int size, int asleep, int hours) {
        YawnRoute x = Check.of(complete(7));
        due("season(" + seed + ", 1)", x.season(seed, 1), 1);
        due("where it is", x.count(2), where);
        due("its size", x.count(3), size);
        due("who sleeps", x.count(4), asleep);
        due("hours", x.count(5), hours);
    }

    private void oneDull(int seed, int s, int n) {
        YawnRoute x = Check.of("net;" + "station dull 5;".repeat(7));
        due("season(" + seed + ", 1)", x.season(seed, 1), 1);
        for (int t = 0; t < 7; t++) {
            due("how dull " + t + " is", x.station(t, 0), t == s ? n : 5);
        }
    }

    /** What the seeds draw was worked out apart from Java: 13 draws 22290 and 46621, and so on. */
    private void draws() {
        edge(15, "(x, an int; a DRAW: x becomes 1103515245 x + 12345, it is x >>> 16)", () -> {
            oneDrawn(13, 1, 5, 0, 1);
            oneDrawn(2147483647, 0, 7, 0, 0);
            YawnRoute x = Check.of(complete(7));
            due("-1 draws 48697, 4409: to 6", x.season(-1, 1), 1);
            due("there", x.count(2), 6);
            due("the least draws 32768, 21468: to 6", x.season(MIN, 1), 0);
            due("-2 draws 31859, 20118, 42504", x.season(-2, 1), 1);
            due("let off at 0", x.count(2), 0);
            due("with 7", x.count(3), 7);
        });
        edge(15, "DRAW modulo 6: 0 to 2 it PASSES to STATION DRAW modulo 7;", () -> {
            oneDrawn(13, 1, 5, 0, 1);
            oneDrawn(35, 2, 5, 0, 1);
            oneDrawn(26, 3, 5, 0, 1);
            oneDrawn(24, 4, 5, 0, 1);
            oneDrawn(31, 5, 5, 0, 1);
            oneDrawn(84, 6, 5, 0, 1);
            oneDrawn(20, 1, 5, 0, 1);
            oneDrawn(46, 6, 5, 0, 1);
            YawnRoute x = Check.of(complete(7));
            due("to 0, where it is", x.season(0, 1) + x.season(90, 1) + x.season(14, 1), 0);
        });
        edge(15, "3 STATION DRAW modulo 7 falls asleep, or wakes;", () -> {
            oneDrawn(38, 0, 5, 1, 0);
            oneDrawn(16, 0, 5, 64, 0);
            oneDrawn(10, 0, 5, 16, 0);
            YawnRoute x = Check.of("net;station asleep;station asleep;");
            due("0 wakes", x.season(38, 1), 1);
            due("1 sleeps", x.count(4), 2);
        });
        edge(15, "4 STATION DRAW modulo 7 is DRAW modulo 10 DULL;", () -> {
            oneDull(6, 0, 0);
            oneDull(72, 3, 9);
            oneDull(2, 4, 7);
            oneDull(8, 6, 2);
        });
        edge(15, "5 it is LET OFF at STATION DRAW modulo 7 with SIZE 1 and DRAW modulo 9;", () -> {
            oneDrawn(200, 5, 1, 0, 0);
            oneDrawn(58, 3, 9, 0, 0);
            oneDrawn(30, 0, 8, 0, 0);
            oneDrawn(45, 6, 5, 0, 0);
        });
    }

    private void drawnDeeds() {
        edge(15, "as in a TRAY, if it can be.", () -> {
            due("0 passes to where it is", Check.of(complete(7)).season(0, 1), 0);
            due("16 puts 6 to sleep, which isn't there", Check.of(complete(6)).season(16, 1), 0);
            due("8 lets 6 be dull, which isn't there", Check.of(complete(6)).season(8, 1), 0);
            due("45 lets it off at 6, which isn't there", Check.of(complete(6)).season(45, 1), 0);
            due("13 passes to 1 from nowhere", Check.of(NOWHERE).season(13, 1), 0);
            due("13 passes to 1, which sleeps", Check.of("net;station;station asleep;way 0 1;at 0 size 5;").season(13, 1), 0);
            due("13 passes to 1, the law", Check.of(TWO + "takes:1=2;").season(13, 1), 0);
            due("13 passes to 1", Check.of(TWO).season(13, 1), 1);
            YawnRoute lost = Check.of(TWO + "passes:0;");
            due("13 passes to 1, and is lost", lost.season(13, 1), 1);
            due("nowhere", lost.count(2), NONE);
        });
        edge(15, "so many times (1 to 40):", () -> {
            forty(7, 0, 30, 3, 7, 9, 15, 519801);
            forty(7, 2147483647, 33, 5, 4, 14, 68, 286080);
            forty(7, MIN, 37, 0, 2, 20, 32, 5603960);
            forty(3, -1, 19, 0, 8, 5, 0, 176);
            forty(3, 20261120, 16, 0, 3, 6, 5, 800);
        });
    }

    /** Seasons of forty, worked out apart from Java; the dullness of all as the digits of one number. */
    private void forty(int stations, int seed, int could, int where, int size, int hours, int asleep, int dulls) {
        YawnRoute x = Check.of(complete(stations));
        due("season(" + seed + ", 40)", x.season(seed, 40), could);
        due("where it is", x.count(2), where);
        due("its size", x.count(3), size);
        due("hours", x.count(5), hours);
        due("asleep", x.count(4), asleep);
        int all = 0;
        for (int s = 0; s < stations; s++) {
            all = all * 10 + x.station(s, 0);
        }
        due("how dull all are", all, dulls);
    }

    private void season() {
        edge(15, "A SEASON: how many could be.", () -> {
            YawnRoute x = Check.of(complete(3));
            due("none", x.season(0, 1), 0);
            due("none", x.season(0, 2), 0);
            due("8 of 40", x.season(0, 40), 8);
            due("one call", x.count(6), 1);
            due("of a net without stations", new YawnRoute().season(0, 40), 0);
        });
        edge(15, "A SEASON by a SEED", () -> {
            YawnRoute x = Check.of(complete(7));
            due("a season", x.season(20261120, 40), 34);
            x.undo(1);
            due("of the same seed the same again", x.season(20261120, 40), 34);
            due("where it is", x.count(2), 0);
            due("its size", x.count(3), 3);
        });
        edge(15, "-3: how many times.", () -> {
            YawnRoute x = Check.of(complete(7));
            String ahead = look(x);
            for (int times : new int[] {0, -1, 41, MIN, MAX}) {
                due("season(13, " + times + ")", x.season(13, times), -3);
            }
            same("nothing is done", x, ahead);
            due("once", x.season(13, 1), 1);
            due("forty times", x.season(13, 40) > 20 ? 1 : 0, 1);
        });
    }
}
