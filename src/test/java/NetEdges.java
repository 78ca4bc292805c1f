/** Promises 1 to 6: the new object, the tape, the net's text and its faults, stations and ways. */
final class NetEdges extends EdgePart {
    /** Twenty bytes; what stands behind them in a text begins at 20. */
    private static final String PRE = "net;station;station;";

    NetEdges(Edges edges) {
        super(edges);
    }

    @Override
    void all() {
        newObject();
        tape();
        netCall();
        netText();
        linesText();
        tokens();
        faults();
        faultCall();
        stationText();
        stationCall();
        wayText();
        wayCall();
    }

    private void reads(String text, int lines) {
        due("net of " + text, Check.read(new YawnRoute(), text), lines);
    }

    private void faulty(String text, int kind, int place) {
        YawnRoute x = new YawnRoute();
        due("net of " + text, Check.read(x, text), -30 - kind);
        due("fault(0) of " + text, x.fault(0), kind);
        due("fault(1) of " + text, x.fault(1), place);
    }

    /** As faulty(), of a line behind two stations. */
    private void faultyLine(String line, int kind, int placeInLine) {
        faulty(PRE + line, kind, 20 + placeInLine);
    }

    private void newObject() {
        edge(1, "No STATIONS.", () -> {
            YawnRoute x = new YawnRoute();
            due("count(0)", x.count(0), 0);
            due("station(0, 0)", x.station(0, 0), -2);
            due("way(0, 1, 0)", x.way(0, 1, 0), -2);
            int[] counts = {0, 0, NONE, 0, 0, 0, 0, 0, 0};
            for (int what = 0; what < counts.length; what++) {
                due("count(" + what + ")", x.count(what), counts[what]);
            }
        });
        edge(1, "(without one: no STATIONS)", () -> {
            YawnRoute x = new YawnRoute();
            due("brings", x.brings(0), -2);
            due("pass", x.pass(0), -11);
            due("off", x.off(0, 1), -11);
            due("sleep", x.sleep(0), -11);
            due("dull", x.dull(0, 0), -11);
            due("soonest", x.soonest(0, 1), -2);
            due("meets", x.meets(0, 0, 1), -2);
            due("season", x.season(1, 40), 0);
            due("reach", x.reach(), -5);
            due("a net alone has none, too", Check.read(x, "net;"), 1);
            due("count(0)", x.count(0), 0);
        });
        edge(1, "NONE = -1: There is none.", () -> {
            due("NONE", YawnRoute.NONE, -1);
            due("where it is", new YawnRoute().count(2), YawnRoute.NONE);
        });
        edge(1, "An object is used for at most 512 calls after it has been made; what later calls answer is free.", () -> {
            YawnRoute x = new YawnRoute();
            int calls = 0;
            int[] text = Check.fours(TWO);
            for (int i = 0; i < text.length; i += 5, calls++) {
                x.feed(text[i], text[i + 1], text[i + 2], text[i + 3], text[i + 4]);
            }
            due("net", x.net(TWO.length()), 6);
            calls++;
            int hours = 0;
            for (; calls < 511; calls++, hours++) {
                due("call " + (calls + 1), x.pass(hours % 2 == 0 ? 1 : 0), 5);
            }
            due("the 512th call", x.count(5), hours);
        });
        edge(1, "No STATIONS.", () -> {
            YawnRoute used = Check.of(TWO);
            Check.tray(used, 0, 1);
            used.image(0);
            YawnRoute fresh = new YawnRoute();
            due("another object's stations are none of its own", fresh.count(0), 0);
            due("nor are its trays", fresh.judge(0, 0), -6);
            due("nor its images", fresh.restore(0), -5);
            due("nor the other way", used.count(0), 2);
        });
    }

    private void tape() {
        edge(2, "Twenty bytes come behind those on THE TAPE", () -> {
            YawnRoute x = new YawnRoute();
            feedBlanks(x);
            Check.feed(x, "net;station dull 7; ");
            due("net", x.net(40), 2);
            due("the station", x.station(0, 0), 7);
            for (int i = 0; i < 20; i++) {
                YawnRoute y = new YawnRoute();
                feedBlanks(y);
                feedOneAt(y, i, '?');
                due("a sign that is none, byte " + i, y.net(40), -31);
                due("its place", y.fault(1), 20 + i);
            }
        });
        edge(2, "the highest of each int first", () -> {
            for (int i = 0; i < 20; i++) {
                for (int sign : new int[] {'?', 0, 127, 128, 255}) {
                    YawnRoute x = new YawnRoute();
                    feedOneAt(x, i, sign);
                    due("byte " + i + " is " + sign, x.net(20), -31);
                    due("its place", x.fault(1), i);
                }
            }
        });
        edge(2, "how many it has", () -> {
            YawnRoute x = new YawnRoute();
            for (int i = 1; i <= 45; i++) {
                due("feed " + i, x.feed(MIN, MAX, -1, 0, 1), 20 * i);
                due("count(7)", x.count(7), 20 * i);
            }
            x.net(0);
            due("behind an empty one", x.feed(0, 0, 0, 0, 0), 20);
        });
        edge(2, "-5: it would have more than 900.", () -> {
            YawnRoute x = new YawnRoute();
            Check.feed(x, long900("station", ";"));
            due("900 is not more", x.count(7), 900);
            due("920", x.feed('?', '?', '?', '?', '?'), -5);
            due("once more", x.feed(0, 0, 0, 0, 0), -5);
            due("the tape stays", x.count(7), 900);
            due("what is on it, too", x.net(900), 2);
        });
    }

    private static void feedBlanks(YawnRoute x) {
        x.feed(0x20202020, 0x20202020, 0x20202020, 0x20202020, 0x20202020);
    }

    private static void feedOneAt(YawnRoute x, int place, int sign) {
        int[] all = {0x20202020, 0x20202020, 0x20202020, 0x20202020, 0x20202020};
        int shift = 24 - place % 4 * 8;
        all[place / 4] = all[place / 4] & ~(255 << shift) | sign << shift;
        x.feed(all[0], all[1], all[2], all[3], all[4]);
    }

    /** "net;", some words, blanks, and an end, of 900 bytes. */
    private static String long900(String words, String end) {
        return "net;" + words + " ".repeat(900 - 4 - words.length() - end.length()) + end;
    }

    private void netCall() {
        edge(3, "The first n bytes of THE TAPE", () -> {
            YawnRoute x = new YawnRoute();
            Check.feed(x, "net;station;station;");
            due("twelve of twenty", x.net(12), 2);
            due("one station", x.count(0), 1);
            Check.feed(x, "net;station dull 12;");
            due("the text ends within a number", x.net(18), -32);
            due("there", x.fault(1), 18);
            Check.feed(x, "net;station;??");
            due("what is behind isn't read", x.net(12), 2);
        });
        edge(3, "(which is empty then, also with a FAULT) are THE NET", () -> {
            YawnRoute x = new YawnRoute();
            Check.feed(x, "net;station;station;");
            x.net(12);
            due("empty, though 8 bytes were not read", x.count(7), 0);
            due("nothing is left to read", x.net(1), -3);
            Check.feed(x, "net?");
            due("a fault", x.net(20), -31);
            due("empty", x.count(7), 0);
            due("nothing is left to read", x.net(1), -3);
        });
        edge(3, "are THE NET", () -> {
            YawnRoute x = Check.of("net;station dull 3 kind 4 asleep;station dull 5 kind 6 asleep;station;station;"
                + "way 0 1 hours 2 odds 3;way 1 0 hours 4 odds 5;way 2 3;at 1 size 9;takes:1=2;passes:7;");
            due("the next one", Check.read(x, "net;station;station;way 0 1;"), 4);
            due("stations", x.count(0), 2);
            due("ways", x.count(1), 1);
            due("where it is", x.count(2), NONE);
            due("its size", x.count(3), 0);
            due("who sleeps", x.count(4), 0);
            due("lines", x.count(8), 4);
            due("how dull", x.station(0, 0) + x.station(1, 0), 0);
            due("kinds", x.station(0, 1) + x.station(1, 1), 0);
            due("hours", x.way(0, 1, 0), 1);
            due("odds", x.way(0, 1, 1), 1);
            due("no way back", x.way(1, 0, 0), NONE);
            x.off(0, 3);
            due("no law", x.brings(1), 3);
            due("one station more", Check.read(x, stations(3)), 4);
            due("stations", x.count(0), 3);
            due("no ways", x.count(1), 0);
        });
        edge(3, "are THE NET", () -> {
            YawnRoute x = new YawnRoute();
            String law = "passes:size" + "+1-1".repeat(200) + ";";
            for (int i = 1; i <= 6; i++) {
                due("a long law, once more", Check.read(x, TWO + law), 7);
                due("the size, time " + i, x.brings(1), 5);
            }
        });
        edge(3, "HOURS are 0", () -> {
            YawnRoute x = Check.of(TWO);
            x.pass(1);
            due("ahead", x.count(5), 1);
            Check.read(x, TWO);
            due("behind", x.count(5), 0);
            due("off() tells so, too", x.off(0, 1), 0);
        });
        edge(3, "nothing can be UNDONE", () -> {
            YawnRoute x = Check.of(TWO);
            x.pass(1);
            x.sleep(0);
            due("ahead", x.count(6), 2);
            Check.read(x, TWO);
            due("behind", x.count(6), 0);
            due("undo", x.undo(1), -3);
            x.sleep(1);
            due("what is done then can be", x.undo(1), 0);
            due("all awake", x.count(4), 0);
        });
        edge(3, "how many LINES (net, too", () -> {
            reads("net;", 1);
            reads("net;station;", 2);
            reads(TWO, 6);
            reads(PRE + "way 0 1;way 0 1;at 0 size 1;at 1 size 1;takes:1=1;takes:1=2;passes:1;passes:2;", 11);
        });
        edge(3, "all else stays with a FAULT)", () -> {
            YawnRoute x = Check.of(FORK);
            x.pass(1);
            x.sleep(0);
            x.dull(2, 4);
            Check.tray(x, 2, 10, 2);
            x.image(1);
            String ahead = look(x);
            due("a late fault", Check.read(x, "net;station;at 0 size 9;takes:1=2;passes:1;station dull 10;"), -33);
            String behind = look(x);
            due("the fault is told", behind.endsWith(" 3 56") ? 1 : 0, 1);
            due("nothing else", behind.replaceFirst("3 56$", "0 -1").equals(ahead) ? 1 : 0, 1);
            due("a tray", x.judge(2, 2), 2);
            due("what can be undone", x.undo(3), 0);
            due("as at first", x.count(2), 0);
            due("an image", x.restore(1), 0);
            due("as it was then", x.count(2), 1);
        });
        edge(3, "-3: n is below 0 or above what there is (THE TAPE stays)", () -> {
            YawnRoute x = new YawnRoute();
            due("none there, 1", x.net(1), -3);
            due("none there, 0 is read", x.net(0), -32);
            Check.feed(x, "net;station;        ");
            for (int n : new int[] {-1, 21, MIN, MAX, 900}) {
                due("net(" + n + ")", x.net(n), -3);
                due("the tape stays", x.count(7), 20);
                due("nothing was read, so no other fault", x.fault(1), 0);
            }
            due("all there is", x.net(20), 2);
        });
        edge(3, "-30 less the FAULT.", () -> {
            faulty("net;?", 1, 4);
            faulty("net;net;", 2, 4);
            faulty("net;station dull 10;", 3, 17);
            faulty(stations(8), 4, 60);
        });
        edge(3, "-30 less the FAULT: a text.", () -> {
            due("no text at all", new YawnRoute().net(0), -32);
            due("the first kind", Check.read(new YawnRoute(), "\u00ff"), -31);
        });
    }

    private void netText() {
        edge(3, "THE NET is a TEXT of at most 900 bytes", () -> {
            reads(long900("station", ";"), 2);
            reads(long900("station;", ""), 2);
            faulty(long900("station", ""), 2, 900);
            faulty(long900("station", "?"), 1, 899);
        });
        edge(3, "net ; { LINE ; }", () -> {
            reads("net;", 1);
            reads("net;station;", 2);
            reads("net;station;station;", 3);
            faulty("", 2, 0);
            faulty(";", 2, 0);
            faulty("net", 2, 3);
            faulty("net station;", 2, 4);
            faulty("net;;", 2, 4);
            faulty("net;station", 2, 11);
            faulty("net;station station;", 2, 12);
            faulty("net;station;;", 2, 12);
            faulty("station;net;", 2, 0);
        });
        edge(3, "LINE: station { FLAG } | way N N { PART } | at N size N | takes : TRUTH | passes : SUM.", () -> {
            reads(PRE + "way 0 1;at 0 size 1;takes:1=1;passes:1;", 7);
            reads("net;takes:1=1;passes:1;station;at 0 size 1;station;way 0 1;", 7);
            faultyLine("way;", 2, 3);
            faultyLine("way 0;", 2, 5);
            faultyLine("way 0 1 1;", 2, 8);
            faultyLine("at;", 2, 2);
            faultyLine("at size 1;", 2, 3);
            faultyLine("at 0;", 2, 4);
            faultyLine("at 0 1;", 2, 5);
            faultyLine("at 0 size;", 2, 9);
            faultyLine("at 0 size 1 2;", 2, 12);
            faultyLine("takes 1=1;", 2, 6);
            faultyLine("takes:;", 2, 6);
            faultyLine("passes 1;", 2, 7);
            faultyLine("passes:;", 2, 7);
        });
        for (String word : "net dull kind asleep hours odds size from if then else end or and not yawn stations".split(" ")) {
            edge(3, "LINE: station { FLAG } | way N N { PART } | at N size N | takes : TRUTH | passes : SUM.", () ->
                faultyLine(word + " 1;", 2, 0));
        }
        edge(3, "FLAG: dull N | kind N | asleep.", () -> {
            reads("net;station;", 2);
            reads("net;station dull 1;", 2);
            reads("net;station kind 1;", 2);
            reads("net;station asleep;", 2);
            reads("net;station asleep kind 1 asleep dull 1 dull 2;", 2);
            faulty("net;station dull;", 2, 16);
            faulty("net;station kind;", 2, 16);
            faulty("net;station kind dull 1;", 2, 17);
            faulty("net;station asleep 1;", 2, 19);
            faulty("net;station 1;", 2, 12);
            faulty("net;station hours 1;", 2, 12);
            faulty("net;station odds 1;", 2, 12);
            faulty("net;station size 1;", 2, 12);
        });
        edge(3, "PART: hours N | odds N.", () -> {
            reads(PRE + "way 0 1;", 4);
            reads(PRE + "way 0 1 hours 2;", 4);
            reads(PRE + "way 0 1 odds 2;", 4);
            reads(PRE + "way 0 1 odds 2 hours 3 hours 4 odds 5;", 4);
            faultyLine("way 0 1 hours;", 2, 13);
            faultyLine("way 0 1 odds;", 2, 12);
            faultyLine("way 0 1 hours odds 1;", 2, 14);
            faultyLine("way 0 1 dull 1;", 2, 8);
            faultyLine("way 0 1 kind 1;", 2, 8);
            faultyLine("way 0 1 asleep;", 2, 8);
        });
    }

    private void linesText() {
        edge(3, "at: a station told ahead where THE YAWN is", () -> {
            due("the last one told", Check.of(PRE + "at 1 size 3;").count(2), 1);
            faultyLine("at 2 size 3;station;", 3, 3);
            faulty("net;at 0 size 3;station;", 3, 7);
            due("asleep or not", Check.of("net;station asleep;at 0 size 3;").count(2), 0);
        });
        edge(3, "its SIZE 1 to 40", () -> {
            due("1", Check.of(PRE + "at 1 size 1;").count(3), 1);
            due("40", Check.of(PRE + "at 1 size 40;").count(3), 40);
            faultyLine("at 1 size 0;", 3, 10);
            faultyLine("at 1 size 41;", 3, 10);
        });
        edge(3, "(a later one strikes; without one it is nowhere).", () -> {
            YawnRoute x = Check.of(PRE + "at 1 size 3;at 0 size 4;");
            due("where it is", x.count(2), 0);
            due("its size", x.count(3), 4);
            YawnRoute y = Check.of(PRE);
            due("nowhere", y.count(2), NONE);
            due("no size", y.count(3), 0);
            Check.read(x, PRE);
            due("nowhere, though it was at 0 in the net ahead", x.count(2), NONE);
            due("no size", x.count(3), 0);
        });
        edge(3, "Later ones of takes, passes count in place of earlier ones.", () -> {
            String net = PRE + "way 0 1;at 0 size 5;";
            due("the later takes", Check.of(net + "takes:1=2;takes:1=1;").brings(1), 5);
            due("the later takes", Check.of(net + "takes:1=1;takes:1=2;").brings(1), -5);
            due("the later passes", Check.of(net + "passes:3;passes:4;").brings(1), 4);
            due("eighty earlier ones", Check.of(net + "takes:1=2;".repeat(80) + "takes:1<2 and 2<3 or 1=2;").brings(1), 5);
            due("eighty earlier ones", Check.of(net + "passes:9;".repeat(80) + "passes:1+2*(3+4);").brings(1), 15);
            due("those of the other law", Check.of(net + "passes:9;".repeat(80) + "takes:1=2 or 1+1*1=2;").brings(1), 9);
            due("each of its own", Check.of(net + "passes:3;takes:1=2;passes:4;takes:1=1;passes:6;").brings(1), 6);
        });
    }

    private void tokens() {
        edge(4, "TOKENS, as long as they go on, between them blanks (10, 32)", () -> {
            reads(" \n net \n\n;\n station  dull\n5 ;\n ", 2);
            reads("net;station dull5kind6asleep;", 2);
            reads("net;station;station;way0 1hours2odds3;at0size4;takes:1=1;passes:1;", 7);
            faulty("netstation;", 2, 0);
            faulty("ne t;", 2, 0);
            faulty("n".repeat(900), 2, 0);
            faulty("net" + ";".repeat(897), 2, 4);
            faulty("net;stationdull 1;", 2, 4);
            faulty("net;station dull 1 2;", 2, 19);
            faulty("net;station dull 12;", 3, 17);
            faulty("net;station;station;way 01;", 2, 26);
            faulty("net;station;station;way 0 1hours12;", 3, 32);
        });
        edge(4, "words (small letters), N (1 to 3 digits), the signs ; : + - * ( ) [ ] = < >.", () -> {
            for (int c = 0; c < 256; c++) {
                boolean blank = c == 10 || c == 32;
                boolean token = c >= 'a' && c <= 'z' || c >= '0' && c <= '9' || ";:+-*()[]=<>".indexOf(c) >= 0;
                YawnRoute x = new YawnRoute();
                due("sign " + c + " behind net;", Check.read(x, "net;" + (char) c), blank ? 1 : token ? -32 : -31);
                due("its place", x.fault(1), blank ? NONE : 4);
            }
        });
        edge(4, "N (1 to 3 digits)", () -> {
            due("1 digit", Check.of("net;station dull 7;").station(0, 0), 7);
            due("2 digits", Check.of("net;station dull 07;").station(0, 0), 7);
            due("3 digits", Check.of("net;station dull 007;").station(0, 0), 7);
            due("of a station, too", Check.of(PRE + "way 000 001;").way(0, 1, 0), 1);
            faulty("net;station dull 0007;", 1, 17);
        });
    }

    private void faults() {
        edge(4, "FAULTS, the first along the text", () -> {
            faulty("net;station dull 10;?", 3, 17);
            faulty("net;station dull 10?", 3, 17);
            faulty("net;?station dull 10;", 1, 4);
            faulty("net;station hours 1000;", 2, 12);
            faulty("net;station kind 10 kind 11 1000;", 3, 17);
            faultyLine("way 0 1 odds 11 hours 0;", 3, 13);
            faultyLine("way 2 2;", 3, 4);
            faulty(stations(8) + "?", 4, 60);
            faulty("net;stAtion;", 2, 4);
            faulty("net;takes:[[[[[[[?", 4, 16);
            faulty("net;takes:[[[[[[?[", 1, 16);
        });
        edge(4, "of one TOKEN the least kind:", () -> {
            faulty("1000", 1, 0);
            faulty("net;1000", 1, 4);
            faulty("net;station dull 1000;", 1, 17);
            faultyLine("way 1000 0;", 1, 4);
            faulty("net;station 999;", 2, 12);
            faultyLine("at 0 41;", 2, 5);
            faulty("net;takes:1=((((((1(", 2, 19);
            faulty("net;passes:((((((not", 2, 17);
            faulty("net;passes:((((((1 if", 2, 19);
            faulty(stations(7) + "takes:1=1 station;", 2, 70);
        });
        edge(4, "1 no TOKEN begins so (4 digits and more: at their first).", () -> {
            faulty("?", 1, 0);
            faulty("net;station_", 1, 11);
            faulty("net;Station;", 1, 4);
            faulty("net\t;", 1, 3);
            faulty("net\r\n;", 1, 3);
            faulty("net;station dull 0000;", 1, 17);
            faulty("net;station dull 00001;", 1, 17);
            faulty("net;station dull 12345678901234567890;", 1, 17);
            faulty("net;station dull 4294967296;", 1, 17);
            faulty("1".repeat(900), 1, 0);
            faulty("net;passes:1+9999;", 1, 13);
            faultyLine("at 0 size  1000;", 1, 11);
        });
        edge(4, "2 it can't stand there (the end: the text's length; net must be told first, and once).", () -> {
            faulty("", 2, 0);
            faulty("    ", 2, 4);
            faulty(" ".repeat(900), 2, 900);
            faulty("\n".repeat(900), 2, 900);
            faulty("net;station  \n", 2, 14);
            faulty("net;takes:1=", 2, 12);
            faulty("net;passes:1", 2, 12);
            faulty("station;", 2, 0);
            faulty(";net;", 2, 0);
            faulty("nets;", 2, 0);
            faulty("net;net;", 2, 4);
            faulty("net;station;net;", 2, 12);
            faulty("net net;", 2, 4);
            YawnRoute x = new YawnRoute();
            Check.feed(x, "net;station;");
            due("the text's length, not the tape's", x.net(11), -32);
            due("there", x.fault(1), 11);
        });
        edge(4, "3 an N out of its bounds (a station that isn't told, one and the same).", () -> {
            faulty("net;station dull 10;", 3, 17);
            faulty("net;station kind 999;", 3, 17);
            faultyLine("way 0 1 hours 0;", 3, 14);
            faultyLine("way 0 1 hours 10;", 3, 14);
            faultyLine("way 0 1 odds 11;", 3, 13);
            faultyLine("at 0 size 0;", 3, 10);
            faultyLine("at 0 size 41;", 3, 10);
            faultyLine("at 2 size 1;", 3, 3);
            faultyLine("way 2 0;", 3, 4);
            faultyLine("way 0 2;", 3, 6);
            faultyLine("way 0 0;", 3, 6);
            faultyLine("way 1 1;", 3, 6);
            faultyLine("way 1 001;", 3, 6);
            faulty("net;way 0 1;", 3, 8);
            faulty("net;station;way 0 1;station;", 3, 18);
        });
        edge(4, "4 the first TOKEN of an 8th station; a seventh of not [ ( if.", () -> {
            faulty(stations(7) + "station", 4, 60);
            faulty(stations(7) + "at 0 size 1; station dull 10;", 4, 73);
            faulty("net;takes:not not not not not not not 1=1;", 4, 34);
            faulty("net;takes:[[[[[[[1=1]]]]]]];", 4, 16);
            faulty("net;takes:(((((((1)))))))=1;", 4, 16);
            faulty("net;passes:(((((((1)))))));", 4, 17);
            faulty("net;passes:((((((if 1=1 then 1 else 1 end))))));", 4, 17);
            reads("net;passes:(((((if 1=1 then 1 else 1 end)))));", 2);
            reads("net;takes:not not not not not not 1=1;", 2);
            reads("net;takes:[[[[[[1=1]]]]]];", 2);
            reads("net;takes:((((((1))))))=1;", 2);
        });
    }

    private void faultCall() {
        edge(4, "Of the latest net() that was read, what 0: its FAULT (0), 1: its place (NONE).", () -> {
            YawnRoute x = new YawnRoute();
            due("none was read, 0", x.fault(0), 0);
            due("none was read, 1", x.fault(1), NONE);
            Check.read(x, "net;?");
            due("a fault", x.fault(0), 1);
            due("its place", x.fault(1), 4);
            due("a refused one is not read", x.net(1), -3);
            due("the fault is that of the latest", x.fault(0), 1);
            due("its place, too", x.fault(1), 4);
            Check.read(x, "net;station kind 10;");
            due("the next fault", x.fault(0), 3);
            due("its place", x.fault(1), 17);
            Check.read(x, TWO);
            due("none", x.fault(0), 0);
            due("no place", x.fault(1), NONE);
        });
        edge(4, "what 0: its FAULT (0), 1: its place (NONE).", () -> {
            YawnRoute x = Check.of(TWO);
            x.image(0);
            Check.read(x, "?");
            due("the first place of all", x.fault(1), 0);
            x.restore(0);
            x.pass(1);
            x.undo(1);
            due("no other call changes it", x.fault(0), 1);
            due("nor its place", x.fault(1), 0);
        });
        edge(4, "NONE for others.", () -> {
            YawnRoute x = new YawnRoute();
            Check.read(x, "net;?");
            for (int what : new int[] {-1, 2, 3, MIN, MAX}) {
                due("fault(" + what + ")", x.fault(what), NONE);
            }
        });
    }

    private void stationText() {
        edge(5, "station: dull 0 to 9 (0)", () -> {
            due("0", Check.of("net;station dull 0;").station(0, 0), 0);
            due("9", Check.of("net;station dull 9;").station(0, 0), 9);
            faulty("net;station dull 10;", 3, 17);
            due("not told", Check.of("net;station kind 5;").station(0, 0), 0);
            YawnRoute x = Check.of("net;station dull 5;");
            Check.read(x, "net;station;");
            due("not told, though it was in the net ahead", x.station(0, 0), 0);
        });
        edge(5, "kind 0 to 9 (0), later ones count in place of earlier ones", () -> {
            due("0", Check.of("net;station kind 0;").station(0, 1), 0);
            due("9", Check.of("net;station kind 9;").station(0, 1), 9);
            faulty("net;station kind 10;", 3, 17);
            due("not told", Check.of("net;station dull 5;").station(0, 1), 0);
            YawnRoute x = Check.of("net;station kind 5 dull 6 kind 7 dull 8;");
            due("the later kind", x.station(0, 1), 7);
            due("the later dull", x.station(0, 0), 8);
            Check.read(x, "net;station;");
            due("not told, though it was in the net ahead", x.station(0, 1), 0);
        });
        edge(5, "asleep: it SLEEPS", () -> {
            YawnRoute x = Check.of("net;station;station asleep;station asleep asleep;");
            due("awake", x.station(0, 2), 0);
            due("asleep", x.station(1, 2), 1);
            due("asleep, told twice", x.station(2, 2), 1);
            Check.read(x, "net;station;station;");
            due("awake, though it slept in the net ahead", x.station(1, 2), 0);
            due("all awake", x.count(4), 0);
        });
        edge(5, "numbered from 0 on, 7 at most.", () -> {
            StringBuilder b = new StringBuilder("net;");
            for (int s = 0; s < 7; s++) {
                b.append("station dull ").append(s + 1).append(';');
            }
            YawnRoute x = new YawnRoute();
            due("seven", Check.read(x, b.toString()), 8);
            for (int s = 0; s < 7; s++) {
                due("station " + s, x.station(s, 0), s + 1);
            }
            due("station 7", x.station(7, 0), -2);
            due("eight", Check.read(x, b + "station;"), -34);
        });
    }

    private void stationCall() {
        edge(5, "Of a STATION, what 0: how DULL, 1: kind", () -> {
            YawnRoute x = Check.of("net;station dull 3 kind 4;station dull 5 kind 6;");
            due("how dull", x.station(1, 0), 5);
            due("kind", x.station(1, 1), 6);
            x.dull(1, 9);
            due("how dull it is by now", x.station(1, 0), 9);
            due("the other one", x.station(0, 0), 3);
        });
        edge(5, "2: 1 if it SLEEPS, else 0", () -> {
            YawnRoute x = Check.of("net;station;station asleep;");
            due("awake", x.station(0, 2), 0);
            due("asleep", x.station(1, 2), 1);
            x.sleep(0);
            x.sleep(1);
            due("asleep by now", x.station(0, 2), 1);
            due("awake by now", x.station(1, 2), 0);
        });
        edge(5, "3: to which ways lead from there, as bits", () -> {
            YawnRoute x = Check.of("net;station;station asleep;station;station;station;station;station;"
                + ways("01 02 03 04 05 06 60 61 62 63 64 65 32") + "takes:1=2;");
            due("to all others, asleep or not, whatever the law says", x.station(0, 3), 126);
            due("to all others", x.station(6, 3), 63);
            due("to one", x.station(3, 3), 4);
            due("to none, though ways lead there", x.station(1, 3), 0);
        });
        edge(5, "4: 1 if THE YAWN is there, else 0.", () -> {
            YawnRoute x = Check.of(PRE + "way 0 1;at 0 size 2;passes:size-1;");
            due("there", x.station(0, 4), 1);
            due("not there", x.station(1, 4), 0);
            x.pass(1);
            due("no more", x.station(0, 4), 0);
            due("by now", x.station(1, 4), 1);
            x.off(0, 1);
            x.pass(1);
            due("lost", x.station(0, 4) + x.station(1, 4), 0);
        });
        edge(5, "-2.", () -> {
            YawnRoute x = Check.of(TWO);
            for (int other : new int[] {-1, 2, 7, 32, MIN, MAX}) {
                due("station(" + other + ", 0)", x.station(other, 0), -2);
            }
            for (int other : new int[] {-1, 5, MIN, MAX}) {
                due("station(0, " + other + ")", x.station(0, other), -2);
            }
        });
    }

    private void wayText() {
        edge(6, "way: from a station told ahead to another one told ahead, one way", () -> {
            YawnRoute x = Check.of("net;station;station;way 1 0;station;way 0 2;");
            due("there", x.way(1, 0, 0), 1);
            due("not back", x.way(0, 1, 0), NONE);
            due("one told later, but ahead of the way", x.way(0, 2, 0), 1);
            faultyLine("way 0 2;station;", 3, 6);
            faultyLine("way 2 0;station;", 3, 4);
            faultyLine("way 1 1;", 3, 6);
            due("of it the yawn can't go back", Check.of(PRE + "way 0 1;at 1 size 1;").brings(0), -5);
        });
        edge(6, "hours 1 to 9 (1)", () -> {
            due("1", Check.of(PRE + "way 0 1 hours 1;").way(0, 1, 0), 1);
            due("9", Check.of(PRE + "way 0 1 hours 9;").way(0, 1, 0), 9);
            faultyLine("way 0 1 hours 0;", 3, 14);
            faultyLine("way 0 1 hours 10;", 3, 14);
            due("not told", Check.of(PRE + "way 0 1 odds 7;").way(0, 1, 0), 1);
        });
        edge(6, "odds 0 to 10 (1), later ones count in place of earlier ones", () -> {
            due("0", Check.of(PRE + "way 0 1 odds 0;").way(0, 1, 1), 0);
            due("10", Check.of(PRE + "way 0 1 odds 10;").way(0, 1, 1), 10);
            faultyLine("way 0 1 odds 11;", 3, 13);
            due("not told", Check.of(PRE + "way 0 1 hours 7;").way(0, 1, 1), 1);
            YawnRoute x = Check.of(PRE + "way 0 1 hours 2 odds 3 hours 4 odds 5;");
            due("the later hours", x.way(0, 1, 0), 4);
            due("the later odds", x.way(0, 1, 1), 5);
        });
        edge(6, "of the same two the same way a later one strikes.", () -> {
            YawnRoute x = Check.of(PRE + "way 0 1 hours 2 odds 3;way 1 0 hours 4 odds 5;way 0 1;");
            due("its hours are not those of the one ahead", x.way(0, 1, 0), 1);
            due("nor are its odds", x.way(0, 1, 1), 1);
            due("the other way stays", x.way(1, 0, 0), 4);
            due("two ways", x.count(1), 2);
        });
    }

    private void wayCall() {
        edge(6, "Of a way, what 0: HOURS, 1: odds.", () -> {
            YawnRoute x = Check.of(PRE + "way 0 1 hours 6 odds 8;");
            due("hours", x.way(0, 1, 0), 6);
            due("odds", x.way(0, 1, 1), 8);
        });
        edge(6, "NONE: there is none;", () -> {
            YawnRoute x = Check.of(PRE + "way 0 1;");
            due("hours", x.way(1, 0, 0), NONE);
            due("odds", x.way(1, 0, 1), NONE);
            due("a way of odds 0 is one", Check.of(PRE + "way 0 1 odds 0;").way(0, 1, 1), 0);
            Check.read(x, PRE);
            due("none, though there was one in the net ahead", x.way(0, 1, 0), NONE);
        });
        edge(6, "-2: STATIONS, both one, what.", () -> {
            YawnRoute x = Check.of(TWO);
            for (int other : new int[] {-1, 2, 7, MIN, MAX}) {
                due("way(" + other + ", 0, 0)", x.way(other, 0, 0), -2);
                due("way(0, " + other + ", 0)", x.way(0, other, 0), -2);
            }
            due("both one", x.way(0, 0, 0), -2);
            due("both one", x.way(1, 1, 1), -2);
            for (int other : new int[] {-1, 2, MIN, MAX}) {
                due("way(0, 1, " + other + ")", x.way(0, 1, other), -2);
            }
        });
    }
}
