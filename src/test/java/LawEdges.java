/** Promises 7 and 8, and the laws: what passing brings, and why it can't be. */
final class LawEdges extends EdgePart {
    /** It is to go from 2 to 1: station 1, dull 4, kind 3, size 10, from 2, hours 7. */
    private static final String ASKED = "net;station;station dull 4 kind 3;station dull 8 kind 6;way 2 1 hours 7;"
        + "way 1 2 hours 5;at 2 size 10;";
    private static final String MILLION = "100*100*100";
    /** Less a million, and one more; more a million, and one more. */
    private static final String LESS = "-999*999-999-999";
    private static final String MORE = "+999*999+999+999+2";

    LawEdges(Edges edges) {
        super(edges);
    }

    @Override
    void all() {
        asked();
        kept();
        sums();
        truths();
        nested();
        passing();
        lawsOfPassing();
        bringsCall();
        passCall();
        whyNot();
    }

    private static int told(String sum) {
        return Check.of(ASKED + "passes:" + sum + ";").brings(1);
    }

    private void tells(String sum, int size) {
        due("passes:" + sum, told(sum), size);
    }

    private void holds(String truth, boolean held) {
        due("takes:" + truth, Check.of(ASKED + "takes:" + truth + ";").brings(1), held ? 10 : -5);
    }

    private void faultyAt(String law, int kind, int place) {
        YawnRoute x = new YawnRoute();
        due("net;" + law, Check.read(x, "net;" + law), -30 - kind);
        due("the place in net;" + law, x.fault(1), place);
    }

    private void faultySum(String sum, int place) {
        faultyAt("passes:" + sum + ";", 2, 11 + place);
    }

    private void faultyTruth(String truth, int place) {
        faultyAt("takes:" + truth + ";", 2, 10 + place);
    }

    private void asked() {
        edge(7, "In both laws: station, dull, kind: the number, dullness, kind of that which is to take it", () -> {
            tells("station", 1);
            tells("dull", 4);
            tells("kind", 3);
            holds("station=1", true);
            holds("dull=4", true);
            holds("kind=3", true);
            YawnRoute x = Check.of(ASKED + "takes:dull>4;passes:dull;");
            due("not so dull", x.brings(1), -5);
            x.dull(2, 9);
            due("of another one", x.brings(1), -5);
            x.dull(1, 5);
            due("as dull as it is by now", x.brings(1), 5);
        });
        edge(7, "size: its SIZE ahead", () -> {
            tells("size", 10);
            tells("size+size", 20);
            holds("size=10", true);
            holds("size<10 or size>10", false);
            YawnRoute x = Check.of(ASKED + "takes:size=3;passes:size+1;");
            x.off(2, 3);
            due("its size by now", x.brings(1), 4);
        });
        edge(7, "from: the number of the STATION it comes from", () -> {
            tells("from", 2);
            holds("from=2", true);
            holds("from=station", false);
            due("not of where it was at first", fromBack(), 1);
        });
        edge(7, "hours: of the way", () -> {
            tells("hours", 7);
            holds("hours=7", true);
            YawnRoute x = Check.of(ASKED + "passes:hours;");
            due("there", x.pass(1), 7);
            due("not the hours so far", x.brings(2), 5);
            due("of a way without hours told", Check.of(TWO + "passes:hours;").brings(1), 1);
        });
    }

    private static int fromBack() {
        YawnRoute x = Check.of(ASKED + "passes:from;");
        x.off(1, 9);
        return x.brings(2);
    }

    private void kept() {
        String kept = "each + - * is kept from -1,000,000 to 1,000,000";
        edge(7, kept, () -> {
            tells(MILLION + LESS, 1);
            tells(MILLION + "+1" + LESS, 1);
            tells(MILLION + "-(0-1)" + LESS, 1);
            tells("101*100*100" + LESS, 1);
            tells("(" + MILLION + ")*(" + MILLION + ")" + LESS, 1);
            tells("(0-" + MILLION + ")*(0-" + MILLION + ")" + LESS, 1);
        });
        edge(7, kept, () -> {
            tells("0-" + MILLION + MORE, 1);
            tells("0-" + MILLION + "-1" + MORE, 1);
            tells("0-" + MILLION + "+(0-1)" + MORE, 1);
            tells("(0-101)*100*100" + MORE, 1);
            tells("(0-" + MILLION + ")*(" + MILLION + ")" + MORE, 1);
        });
        edge(7, kept, () -> {
            tells(MILLION + "+" + MILLION + "-" + MILLION + "+5", 5);
            tells("0-" + MILLION + "-" + MILLION + "+" + MILLION + "+5", 5);
            tells("(" + MILLION + "*100-" + MILLION + ")*9+5", 5);
            holds(MILLION + "+1=" + MILLION, true);
            holds(MILLION + ">" + MILLION + "-1", true);
            holds("0-" + MILLION + "-1=0-" + MILLION, true);
            holds("0-" + MILLION + "<1-" + MILLION, true);
        });
    }

    private void sums() {
        edge(7, "SUM: TERM { + TERM | - TERM };", () -> {
            tells("7", 7);
            tells("20-5-3", 12);
            tells("20-5+3", 18);
            tells("1+2-3+4-5+6", 5);
            faultySum("+1", 0);
            faultySum("-1", 0);
            faultySum("1+", 2);
            faultySum("1-", 2);
            faultySum("1+-1", 2);
            faultySum("1 1", 2);
        });
        edge(7, "TERM: ATOM { * ATOM };", () -> {
            tells("2+3*4", 14);
            tells("3*4+2", 14);
            tells("20-2*3", 14);
            tells("1*2*3*4", 24);
            tells("2*3+2*4", 14);
            faultySum("*1", 0);
            faultySum("1*", 2);
            faultySum("1**1", 2);
        });
        edge(7, "ATOM: N, ( SUM ), if TRUTH then SUM else SUM end, station, dull, kind, size, from, hours.", () -> {
            tells("0", 0);
            tells("999-960", 39);
            tells("(2+3)*4", 20);
            tells("20-(5-3)", 18);
            tells("2*if 1=1 then 3 else 4 end*2", 12);
            tells("station*dull+kind+size+from+hours", 26);
            faultySum("()", 1);
            faultySum("(1", 2);
            faultySum("1)", 1);
            faultySum("[1]", 0);
            faultySum("odds", 0);
            faultySum("asleep", 0);
            faultySum("yawn", 0);
            faultySum("not 1=1", 0);
            faultySum("1=1", 1);
        });
        edge(7, "if TRUTH then SUM else SUM end", () -> {
            tells("if 1=2 or 2=2 then 3+4 else 5+6 end", 7);
            faultySum("if 1 then 1 else 1 end", 5);
            faultySum("if 1=1 1 else 1 end", 7);
            faultySum("if 1=1 then 1 end", 14);
            faultySum("if 1=1 then 1 else 1", 20);
            faultySum("if 1=1 then else 1 end", 12);
            faultySum("if then 1 else 1 end", 3);
            faultySum("then", 0);
            faultySum("end", 0);
        });
        edge(7, "if tells the one SUM, if the TRUTH holds, else the other one.", () -> {
            tells("if size=10 then 5 else 6 end", 5);
            tells("if size=9 then 5 else 6 end", 6);
            tells("if size=9 then 5 else 6 end+1", 7);
            tells("1+if 1=1 then 0-1 else 6 end", 0);
            tells("if 1=1 then if 1=2 then 3 else 4 end else 5 end", 4);
            tells("if 1=2 then 5 else if 1=1 then 3 else 4 end end", 3);
            tells("if if 1=2 then 3 else 4 end=4 then 6 else 7 end", 6);
            holds("if size=10 then 1 else 2 end=1", true);
            holds("if size=9 then 1 else 2 end=1", false);
        });
    }

    private void truths() {
        edge(7, "TRUTH: BOTH { or BOTH }; BOTH: UNIT { and UNIT };", () -> {
            holds("1=1 or 1=1 and 1=2", true);
            holds("1=2 and 1=1 or 1=1", true);
            holds("[1=1 or 1=1] and 1=2", false);
            holds("1=2 or 1=2 or 1=1", true);
            holds("1=2 or 1=2 or 1=2", false);
            holds("1=1 and 1=1 and 1=2", false);
            holds("1=2 and 1=1 and 1=1", false);
            holds("1=1 and 1=1 and 1=1", true);
            faultyTruth("1=1 or", 6);
            faultyTruth("1=1 and", 7);
            faultyTruth("or 1=1", 0);
            faultyTruth("and 1=1", 0);
            faultyTruth("1=1 or or 1=1", 7);
            faultyTruth("1=1 1=1", 4);
        });
        edge(7, "UNIT: not UNIT, [ TRUTH ], or SUM, one of = < >, SUM.", () -> {
            holds("not 1=1", false);
            holds("not not 1=1", true);
            holds("not 1=1 or 1=1", true);
            holds("not 1=2 and 1=2", false);
            holds("not [1=1 or 1=1]", false);
            holds("not [1=2 and 1=1]", true);
            holds("1+1=2*1", true);
            faultyTruth("not", 3);
            faultyTruth("not 1", 5);
            faultyTruth("[1=1", 4);
            faultyTruth("[1]", 2);
            faultyTruth("[]", 1);
            faultyTruth("1=1]", 3);
            faultyTruth("(1=1)", 2);
            faultyTruth("1", 1);
            faultyTruth("1=", 2);
            faultyTruth("=1", 0);
            faultyTruth("1=1=1", 3);
            faultyTruth("1==1", 2);
            faultyTruth("1<=1", 2);
            faultyTruth("1<>1", 2);
        });
        edge(7, "UNIT: not UNIT, [ TRUTH ], or SUM, one of = < >, SUM.", () -> {
            String[] all = {"2=2", "1<2", "2>1", "1=2", "2<1", "1>2", "2<2", "2>2", "[1<2]", "not 2<1"};
            boolean[] held = {true, true, true, false, false, false, false, false, true, true};
            for (int i = 0; i < all.length; i++) {
                holds(all[i], held[i]);
                holds("not " + all[i], !held[i]);
                tells("if " + all[i] + " then 3 else 4 end", held[i] ? 3 : 4);
                for (int k = 0; k < all.length; k++) {
                    holds(all[i] + " and " + all[k], held[i] && held[k]);
                    holds(all[i] + " or " + all[k], held[i] || held[k]);
                }
            }
        });
        for (String word : "yawn net way at takes passes asleep odds then else end or and".split(" ")) {
            edge(7, "UNIT: not UNIT, [ TRUTH ], or SUM, one of = < >, SUM.", () -> {
                faultyTruth(word + " 1=1", 0);
                faultyTruth("1=1 and " + word + " 1=1", 8);
                faultyTruth("1=" + word, 2);
                faultySum("1+" + word, 2);
            });
        }
        edge(7, "one of = < >", () -> {
            holds("dull=4", true);
            holds("dull=3", false);
            holds("dull=5", false);
            holds("dull<4", false);
            holds("dull<5", true);
            holds("dull>4", false);
            holds("dull>3", true);
            holds("0-1<0", true);
            holds("0>0-1", true);
            holds("0-2<0-1", true);
        });
    }

    private static String nestedIf(int n, String ahead, String behind) {
        return ahead.repeat(n) + "1" + behind.repeat(n);
    }

    private void nested() {
        String most = "At most six of not [ ( if within one another.";
        edge(7, most, () -> {
            tells("((((((7))))))", 7);
            holds("not not not not not not 1=1", true);
            holds("[[[[[[1=1]]]]]]", true);
            tells(nestedIf(6, "if ", "=1 then 1 else 2 end"), 1);
            tells(nestedIf(6, "if 1=1 then ", " else 2 end"), 1);
            tells(nestedIf(6, "if 1=2 then 2 else ", " end"), 1);
        });
        edge(4, most, () -> {
            faultyAt("passes:(((((((7)))))));", 4, 17);
            faultyAt("takes:not not not not not not not 1=1;", 4, 34);
            faultyAt("takes:[[[[[[[1=1]]]]]]];", 4, 16);
            faultyAt("passes:" + nestedIf(7, "if ", "=1 then 1 else 2 end") + ";", 4, 29);
            faultyAt("passes:" + nestedIf(7, "if 1=1 then ", " else 2 end") + ";", 4, 83);
            faultyAt("passes:" + nestedIf(7, "if 1=2 then 2 else ", " end") + ";", 4, 125);
        });
        edge(4, most, () -> {
            holds("not[not[(if 1=1 then 1 else 2 end)=1]]", true);
            faultyAt("takes:not[not[(if (1)=1 then 1 else 2 end)=1]];", 4, 22);
            faultyAt("takes:not[not[not[(1)=1]]];", 4, 22);
            faultyAt("takes:[([;", 2, 12);
            faultyAt("takes:[[[[[[not 1=1]]]]]];", 4, 16);
            faultyAt("passes:((((((if 1=1 then 1 else 1 end))))));", 4, 17);
        });
        edge(7, "within one another", () -> {
            tells("((((((1))))))+((((((2))))))*((((((3))))))", 7);
            holds("not not not not not not 1=1 and not not not not not not 1=1", true);
            holds("not not not not not not 1=1 or [[[[[[1=2]]]]]] or ((((((1))))))=1", true);
            tells("if [[[[[1=1]]]]] then (((((1))))) else (((((2))))) end+((((((3))))))", 4);
        });
    }

    private void passing() {
        edge(8, "THE YAWN is at a STATION, with a SIZE, 1 to 40, or nowhere.", () -> {
            YawnRoute x = Check.of(TWO + "passes:size*size;");
            x.off(0, 1);
            due("1 stays 1", x.pass(1), 1);
            x.off(0, 7);
            due("49 is 40", x.pass(1), 40);
            due("count(3)", x.count(3), 40);
            YawnRoute y = Check.of(NOWHERE);
            due("nowhere", y.count(2), NONE);
            due("without a size", y.count(3), 0);
        });
        edge(8, "TO PASS it to a STATION: by a way that leads there from where it is", () -> {
            YawnRoute x = Check.of("net;station;station;station;way 0 1;way 2 1;way 1 2;at 1 size 5;");
            due("the way leads here, not there", x.pass(0), -12);
            due("a way from here", x.pass(2), 5);
            due("a way from elsewhere", x.pass(0), -12);
            due("where it is", x.pass(2), -12);
            due("odds of 0 are no hindrance", Check.of("net;station;station;way 0 1 odds 0;at 0 size 5;").pass(1), 5);
        });
        edge(8, "that STATION not SLEEPING", () -> {
            YawnRoute x = Check.of("net;station;station asleep;way 0 1;way 1 0;at 0 size 5;");
            due("asleep", x.pass(1), -13);
            x.sleep(1);
            x.sleep(0);
            due("the one from where it goes may sleep", x.pass(1), 5);
            due("not the one to which it goes", x.pass(0), -13);
        });
        edge(8, "then it is there", () -> {
            YawnRoute x = Check.of(TWO);
            x.pass(1);
            due("count(2)", x.count(2), 1);
            due("station(1, 4)", x.station(1, 4), 1);
            due("station(0, 4)", x.station(0, 4), 0);
        });
        edge(8, "HOURS of the way go by.", () -> {
            YawnRoute x = Check.of("net;station;station;way 0 1 hours 9;way 1 0;at 0 size 5;passes:if station=0 then 0 else 5 end;");
            x.pass(1);
            due("9", x.count(5), 9);
            x.pass(0);
            due("and 1, though it is lost", x.count(5), 10);
            x.pass(1);
            due("none, as it is nowhere", x.count(5), 10);
            x.off(1, 5);
            x.sleep(0);
            x.pass(0);
            due("none, as 0 sleeps", x.count(5), 10);
        });
    }

    private void lawsOfPassing() {
        edge(8, "if the law takes holds (without one: always)", () -> {
            String net = TWO + "passes:size-2;";
            due("without", Check.of(net).pass(1), 3);
            due("it holds", Check.of(net + "takes:size>4;").pass(1), 3);
            due("it doesn't", Check.of(net + "takes:size>5;").pass(1), -14);
            due("of a net ahead", lawAhead(), 5);
        });
        edge(8, "with the SIZE the law passes tells, 40 at most (without one: the same)", () -> {
            tells("39", 39);
            tells("40", 40);
            tells("41", 40);
            tells(MILLION, 40);
            YawnRoute x = Check.of(TWO + "takes:1=1;");
            for (int size = 1; size <= 40; size++) {
                x.off(0, size);
                due("without, size " + size, x.pass(1), size);
            }
        });
        edge(8, "if that is below 1, it is nowhere (lost).", () -> {
            for (int n = 3; n <= 8; n++) {
                YawnRoute x = Check.of(TWO + "passes:size-" + n + ";");
                due("5 less " + n, x.pass(1), Math.max(0, 5 - n));
                due("where it is", x.count(2), n < 5 ? 1 : NONE);
                due("its size", x.count(3), Math.max(0, 5 - n));
            }
            due("far below", Check.of(TWO + "passes:0-" + MILLION + ";").pass(1), 0);
        });
    }

    /** Laws of the net ahead are none of the next one's. */
    private static int lawAhead() {
        YawnRoute x = Check.of(TWO + "takes:1=2;passes:9;");
        Check.read(x, TWO);
        return x.pass(1);
    }

    private void bringsCall() {
        edge(7, "The SIZE it would have by PASSING to a STATION now (0: it would be lost).", () -> {
            YawnRoute x = Check.of(FORK);
            String ahead = look(x);
            due("10-3+1", x.brings(1), 8);
            due("10-1", x.brings(2), 9);
            same("nothing is done", x, ahead);
            due("lost", Check.of(TWO + "passes:size-5;").brings(1), 0);
            due("lost, below 0", Check.of(TWO + "passes:size-6;").brings(1), 0);
            due("just not lost", Check.of(TWO + "passes:size-4;").brings(1), 1);
        });
        edge(7, "-2; -5: it can't be.", () -> {
            YawnRoute x = Check.of(FORK);
            for (int other : new int[] {-1, 4, 7, MIN, MAX}) {
                due("brings(" + other + ")", x.brings(other), -2);
            }
            due("no way", x.brings(3), -5);
            due("where it is", x.brings(0), -5);
            x.sleep(1);
            due("asleep", x.brings(1), -5);
            x.off(0, 1);
            due("the law", x.brings(2), -5);
            due("nowhere", Check.of(NOWHERE).brings(1), -5);
            YawnRoute lost = Check.of(TWO + "passes:0;");
            lost.pass(1);
            due("lost", lost.brings(0), -5);
            due("no such station, and nowhere", lost.brings(2), -2);
        });
    }

    private void passCall() {
        edge(8, "To PASS: its SIZE then (0: it is lost).", () -> {
            YawnRoute x = Check.of(FORK);
            due("10-3+1", x.pass(1), 8);
            due("8-1", x.pass(2), 7);
            due("lost", Check.of(TWO + "passes:size-5;").pass(1), 0);
            due("just not lost", Check.of(TWO + "passes:size-4;").pass(1), 1);
        });
        edge(8, "-11 to -14.", () -> {
            YawnRoute x = Check.of("net;station;station;station asleep;station dull 9;way 0 2;way 0 3;at 0 size 5;takes:dull<9;");
            String ahead = look(x);
            for (int other : new int[] {-1, 4, 7, MIN, MAX}) {
                due("pass(" + other + ")", x.pass(other), -11);
            }
            due("no way", x.pass(1), -12);
            due("asleep", x.pass(2), -13);
            due("the law", x.pass(3), -14);
            same("nothing is done", x, ahead);
        });
    }

    private void whyNot() {
        edge(8, "Why not: 1 no such STATION, SIZE, dullness.", () -> {
            YawnRoute x = Check.of(TWO);
            due("pass", x.pass(2), -11);
            due("off, a station", x.off(2, 1), -11);
            due("off, a size", x.off(0, 0), -11);
            due("sleep", x.sleep(2), -11);
            due("dull, a station", x.dull(2, 1), -11);
            due("dull, a dullness", x.dull(0, 10), -11);
        });
        edge(8, "2 it is nowhere, no way leads there (PASS).", () -> {
            due("nowhere", Check.of(NOWHERE).pass(1), -12);
            due("no way", Check.of("net;station;station;way 1 0;at 0 size 5;").pass(1), -12);
            YawnRoute x = Check.of(NOWHERE);
            due("the others don't ask where it is: sleep", x.sleep(0), 1);
            due("dull", x.dull(0, 1), 0);
            due("off", x.off(0, 1), 0);
        });
        edge(8, "3 that STATION SLEEPS.", () -> {
            YawnRoute x = Check.of("net;station asleep;station asleep;way 0 1;at 0 size 5;");
            due("asleep", x.pass(1), -13);
            due("it may be let off there", x.off(1, 3), 0);
            due("and be more dull", x.dull(1, 3), 0);
        });
        edge(8, "4 the law takes.", () -> {
            due("it doesn't hold", Check.of(TWO + "takes:1=2;").pass(1), -14);
            due("it isn't asked of one let off", Check.of(TWO + "takes:1=2;").off(1, 3), 0);
        });
        edge(8, "(Of several that which the call tells first", () -> {
            YawnRoute x = Check.of("net;station;station asleep;way 0 1;takes:1=2;");
            due("no such station, nowhere", x.pass(2), -11);
            due("nowhere, asleep, the law", x.pass(1), -12);
            x.off(1, 1);
            due("no way, asleep", x.pass(1), -12);
            x.off(0, 1);
            due("asleep, the law", x.pass(1), -13);
            x.sleep(1);
            due("the law", x.pass(1), -14);
        });
    }
}
