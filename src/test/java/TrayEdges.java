/** Promises 38 to 43: trays, images, counts. */
final class TrayEdges extends EdgePart {
    TrayEdges(Edges edges) {
        super(edges);
    }

    @Override
    void all() {
        trays();
        numbers();
        cuts();
        write();
        lists();
        listsCall();
        images();
        restored();
        restore();
        counts();
    }

    private void trays() {
        edge(38, "TRAYS 0 to 3 are MISSING at first", () -> {
            YawnRoute x = Check.of(TWO);
            for (int tray = 0; tray < 4; tray++) {
                due("judge(" + tray + ", 0)", x.judge(tray, 0), -6);
                due("write(" + tray + ", 0, 1)", x.write(tray, 0, 1), -6);
                due("lists(" + tray + ", 1)", x.lists(tray, 1), -6);
            }
            x.numbers(2, 0, 1);
            due("one is made", x.write(2, 0, 1), 1);
            due("the next is missing still", x.write(3, 0, 1), -6);
            due("the one ahead, too", x.write(1, 0, 1), -6);
        });
        edge(38, "or have 0 to 40 numbers of 8 bits (sort 0), 16 (1), 32 (2), 64 (3).", () -> {
            YawnRoute x = new YawnRoute();
            long big = 0x1234567890abcdefL;
            long[] cut = {0xffffffffffffffefL, 0xffffffffffffcdefL, 0xffffffff90abcdefL, big};
            for (int sort = 0; sort < 4; sort++) {
                due("forty", x.numbers(sort, sort, 40), 0);
                due("the first", x.write(sort, 0, big), cut[sort]);
                due("the last", x.write(sort, 39, big), cut[sort]);
                due("no 41st", x.write(sort, 40, big), -7);
                due("none", x.numbers(sort, sort, 0), 0);
                due("no first", x.write(sort, 0, big), -7);
            }
        });
    }

    private void numbers() {
        edge(38, "A TRAY has n numbers of a sort, all 0 (in place of another one): 0.", () -> {
            YawnRoute x = Check.of(complete(3));
            x.off(1, 5);
            due("made", x.numbers(0, 2, 2), 0);
            due("the first is 0: it passes to 0", x.judge(0, 2), 0);
            due("the second, too: no way from there", x.judge(0, 0), 1);
            x.write(0, 0, 70000);
            x.write(0, 1, 2);
            due("another one", x.numbers(0, 0, 3), 0);
            due("its first is 0", x.judge(0, 2), 0);
            due("its second", x.judge(0, 0), 1);
            due("three numbers", x.write(0, 2, 300), 44);
            due("no more", x.write(0, 3, 0), -7);
            due("shorter", x.numbers(0, 3, 1), 0);
            due("one number of 64 bits", x.write(0, 0, 1L << 50), 1L << 50);
            due("no more", x.write(0, 1, 0), -7);
            due("longer again", x.numbers(0, 3, 40), 0);
            due("its first is 0", x.judge(0, 2), 0);
        });
        edge(38, "-2: no such TRAY, sort; -3, and the TRAY stays: n is below 0 or above 40.", () -> {
            YawnRoute x = Check.of(complete(3));
            Check.tray(x, 0, 1, 2);
            for (int other : new int[] {-1, 4, MIN, MAX}) {
                due("numbers(" + other + ", 0, 1)", x.numbers(other, 0, 1), -2);
                due("numbers(0, " + other + ", 1)", x.numbers(0, other, 1), -2);
            }
            for (int n : new int[] {-1, 41, MIN, MAX}) {
                due("numbers(0, 0, " + n + ")", x.numbers(0, 0, n), -3);
                due("the tray stays", x.judge(0, 2), 2);
                due("its sort", x.write(0, 1, (1L << 32) + 2), (1L << 32) + 2);
                due("its number", x.write(0, 1, 2), 2);
                due("its length", x.write(0, 2, 2), -7);
                due("one that is missing stays so", x.numbers(1, 0, n), -3);
                due("missing", x.judge(1, 0), -6);
            }
        });
    }

    private void cut(int sort, long v, long is) {
        YawnRoute x = new YawnRoute();
        x.numbers(0, sort, 1);
        due("sort " + sort + ", " + v, x.write(0, 0, v), is);
    }

    private void cuts() {
        edge(39, "Number i of a TRAY is v, cut to its sort: as it is there.", () -> {
            for (int sort = 0; sort < 3; sort++) {
                int bits = 8 << sort;
                long most = (1L << bits - 1) - 1;
                cut(sort, 0, 0);
                cut(sort, 1, 1);
                cut(sort, -1, -1);
                cut(sort, most, most);
                cut(sort, most + 1, -most - 1);
                cut(sort, -most - 1, -most - 1);
                cut(sort, -most - 2, most);
                cut(sort, 2 * most + 1, -1);
                cut(sort, 2 * most + 2, 0);
                cut(sort, 2 * most + 3, 1);
                cut(sort, Long.MAX_VALUE, -1);
                cut(sort, Long.MIN_VALUE, 0);
            }
            cut(3, Long.MAX_VALUE, Long.MAX_VALUE);
            cut(3, Long.MIN_VALUE, Long.MIN_VALUE);
            cut(3, -1, -1);
        });
        edge(39, "as it is there.", () -> {
            YawnRoute x = Check.of(complete(3));
            x.numbers(0, 0, 2);
            due("257 is 1", x.write(0, 0, 257), 1);
            due("2", x.write(0, 1, 2), 2);
            due("both can be done", x.perform(0), 2);
            due("it is at 2", x.count(2), 2);
            due("140 is below 0 in 8 bits", x.write(0, 0, 140), -116);
            due("so it is no deed", x.judge(0, 1), 1);
            x.write(0, 0, 1);
            due("the other number stays", x.judge(0, 2), 2);
        });
    }

    private void write() {
        edge(39, "-2: no such TRAY; -6; -7.", () -> {
            YawnRoute x = new YawnRoute();
            x.numbers(0, 0, 3);
            for (int other : new int[] {-1, 4, MIN, MAX}) {
                due("write(" + other + ", 0, 1)", x.write(other, 0, 1), -2);
            }
            for (int tray = 1; tray < 4; tray++) {
                due("missing, " + tray, x.write(tray, 0, 1), -6);
            }
            for (int other : new int[] {-1, 3, 40, MIN, MAX}) {
                due("write(0, " + other + ", 1)", x.write(0, other, 1), -7);
            }
        });
    }

    private void lists() {
        edge(40, "STATIONS of COMING SOONEST to a STATION with any SIZE come into a TRAY", () -> {
            YawnRoute x = Check.of(FORK);
            for (int sort = 0; sort < 4; sort++) {
                x.numbers(0, sort, 2);
                due("two: 1 and 2", x.lists(0, 2), 2);
                due("they can be done", x.perform(0), 2);
                due("by 3 hours, not by 5", x.count(5), 3);
                due("it is at 2", x.count(2), 2);
                x.undo(1);
            }
            YawnRoute small = Check.of(stations(3) + ways("01 12") + "at 0 size 2;passes:1;");
            small.numbers(0, 0, 2);
            due("with any size: 1", small.lists(0, 2), 2);
            due("there", small.judge(0, 2), 2);
            YawnRoute like = Check.of(stations(5) + "way 0 1;way 1 2;way 2 4 hours 2;way 0 3 hours 2;way 3 4 hours 2;at 0 size 5;");
            Check.tray(like, 0, 0, 0, 0);
            due("of like hours the fewest passings", like.lists(0, 4), 2);
            like.perform(0);
            due("over 3", like.count(2), 4);
        });
        edge(40, "as far as it has places: how many.", () -> {
            YawnRoute x = Check.of(stations(6) + ways("01 12 23 34 45") + "at 0 size 5;");
            for (int n : new int[] {0, 1, 4, 5}) {
                x.numbers(0, 0, n);
                due(n + " places", x.lists(0, 5), n);
                due("so many can be done", x.perform(0), n);
                due("as far as that", x.count(2), n);
                if (n > 0) {
                    x.undo(1);
                }
            }
            Check.tray(x, 0, 99, 99, 99, 99, 99, 10, 0);
            due("more places", x.lists(0, 5), 5);
            due("what is behind stays", x.perform(0), 6);
            due("10: 0 sleeps", x.count(4), 1);
            x.undo(1);
            due("it is there: none", x.lists(0, 0), 0);
            due("the tray stays", x.perform(0), 6);
        });
    }

    private void listsCall() {
        edge(40, "-2: the TRAY, the STATION; -6; -5: it is nowhere, there is none.", () -> {
            YawnRoute x = Check.of(FORK);
            Check.tray(x, 0, 1, 2);
            for (int other : new int[] {-1, 4, MIN, MAX}) {
                due("lists(" + other + ", 2)", x.lists(other, 2), -2);
                due("lists(0, " + other + ")", x.lists(0, other), -2);
            }
            for (int tray = 1; tray < 4; tray++) {
                due("missing, " + tray, x.lists(tray, 2), -6);
            }
            due("there is none", x.lists(0, 3), -5);
            due("the tray stays", x.judge(0, 2), 2);
            YawnRoute y = Check.of(NOWHERE);
            Check.tray(y, 0, 1);
            due("nowhere", y.lists(0, 1), -5);
            due("nowhere, though no number would come", y.lists(0, 0), -5);
        });
    }

    private void images() {
        edge(41, "IMAGES 0 to 1:", () -> {
            YawnRoute x = Check.of(TWO);
            due("0", x.image(0), 0);
            x.pass(1);
            due("1", x.image(1), 0);
            x.off(0, 9);
            due("0 is one of its own", x.restore(0), 0);
            due("size", x.count(3), 5);
            due("where", x.count(2), 0);
            due("1 is one of its own", x.restore(1), 0);
            due("where", x.count(2), 1);
        });
        edge(41, "An IMAGE is made: 0. -2.", () -> {
            YawnRoute x = Check.of(TWO);
            x.pass(1);
            String ahead = look(x);
            due("made", x.image(0), 0);
            for (int other : new int[] {-1, 2, MIN, MAX}) {
                due("image(" + other + ")", x.image(other), -2);
            }
            same("nothing else is done", x, ahead);
            due("what can be undone still can", x.undo(1), 0);
            due("made anew", x.image(0), 0);
            x.pass(1);
            x.restore(0);
            due("the later one", x.count(2), 0);
        });
    }

    private void restored() {
        edge(42, "THE NET and what a call could bring back by UNDOING;", () -> {
            YawnRoute x = Check.of(FORK);
            x.pass(1);
            x.dull(2, 7);
            x.sleep(0);
            x.image(0);
            Check.read(x, "net;station kind 4;station;way 1 0 hours 7 odds 2;at 0 size 40;takes:1=2;passes:1;");
            Check.tray(x, 0, 0, 10);
            x.restore(0);
            due("stations", x.count(0), 4);
            due("ways", x.count(1), 5);
            due("where it is", x.count(2), 1);
            due("its size", x.count(3), 8);
            due("who sleeps", x.count(4), 9);
            due("hours", x.count(5), 2);
            due("lines", x.count(8), 13);
            due("how dull", x.station(2, 0), 7);
            due("kind", x.station(1, 1), 1);
            due("ways", x.way(0, 2, 0) * 10 + x.way(0, 2, 1), 54);
            due("laws", x.brings(2), 1);
            due("trays are none of it", x.judge(0, 0), 0);
            due("what it can come to", x.biggest(2), 1);
        });
        edge(42, "nothing can be UNDONE behind (none at first).", () -> {
            YawnRoute x = Check.of(TWO);
            due("none at first", x.restore(0), -5);
            due("none at first", x.restore(1), -5);
            x.pass(1);
            x.image(0);
            x.pass(0);
            due("two can be undone", x.count(6), 2);
            x.restore(0);
            due("none", x.count(6), 0);
            due("undo", x.undo(1), -3);
            x.off(0, 3);
            due("what is done then can be", x.undo(1), 0);
            due("as in the image", x.count(2), 1);
        });
    }

    private void restore() {
        edge(42, "All that is in an IMAGE is as it was: 0.", () -> {
            YawnRoute x = new YawnRoute();
            due("of no stations", x.image(0), 0);
            Check.read(x, TWO);
            x.image(1);
            x.pass(1);
            due("restored", x.restore(1), 0);
            due("where it is", x.count(2), 0);
            x.sleep(1);
            due("once more", x.restore(1), 0);
            due("none sleeps", x.count(4), 0);
            due("that of no stations", x.restore(0), 0);
            due("none", x.count(0), 0);
            due("nowhere", x.count(2), NONE);
            due("no lines", x.count(8), 0);
            YawnRoute y = Check.of(TWO);
            y.image(0);
            Check.feed(y, "net;station;station;");
            due("20 bytes", y.count(7), 20);
            y.restore(0);
            due("the tape is none of it", y.count(7), 20);
            due("its bytes, too", y.net(12), 2);
        });
        edge(42, "-2; -5: none was made.", () -> {
            YawnRoute x = Check.of(TWO);
            x.image(0);
            x.pass(1);
            String ahead = look(x);
            for (int other : new int[] {-1, 2, MIN, MAX}) {
                due("restore(" + other + ")", x.restore(other), -2);
            }
            due("none was made", x.restore(1), -5);
            same("nothing is restored", x, ahead);
        });
    }

    private void counts() {
        edge(43, "0 STATIONS, 1 ways, 2 where it is (NONE), 3 its SIZE (0: nowhere)", () -> {
            YawnRoute x = Check.of(FORK);
            due("stations", x.count(0), 4);
            due("ways", x.count(1), 5);
            due("where it is", x.count(2), 0);
            due("its size", x.count(3), 10);
            YawnRoute all = Check.of(complete(7));
            due("stations", all.count(0), 7);
            due("ways", all.count(1), 42);
            YawnRoute y = Check.of(NOWHERE);
            due("nowhere", y.count(2), NONE);
            due("no size", y.count(3), 0);
        });
        edge(43, "4 who SLEEPS, as bits, 5 HOURS, 6 calls that can be UNDONE", () -> {
            YawnRoute x = Check.of("net;station asleep;station;station asleep;way 0 1 hours 9;at 0 size 5;");
            due("asleep", x.count(4), 5);
            due("no hours", x.count(5), 0);
            due("none", x.count(6), 0);
            x.pass(1);
            x.sleep(1);
            due("asleep", x.count(4), 7);
            due("hours", x.count(5), 9);
            due("two", x.count(6), 2);
            x.undo(1);
            due("one", x.count(6), 1);
        });
        edge(43, "7 bytes on THE TAPE, 8 LINES.", () -> {
            YawnRoute x = new YawnRoute();
            due("no bytes", x.count(7), 0);
            due("no lines", x.count(8), 0);
            Check.feed(x, TWO);
            due("60 bytes", x.count(7), 60);
            due("no lines yet", x.count(8), 0);
            x.net(TWO.length());
            due("no bytes", x.count(7), 0);
            due("lines", x.count(8), 6);
            Check.read(x, "net;");
            due("net alone", x.count(8), 1);
        });
        edge(43, "NONE for others.", () -> {
            YawnRoute x = Check.of(TWO);
            for (int other : new int[] {-1, 9, 10, MIN, MAX}) {
                due("count(" + other + ")", x.count(other), NONE);
            }
        });
    }
}
