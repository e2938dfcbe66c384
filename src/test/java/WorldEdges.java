/** Promises 22 to 36: the sentences about WORLDS, the PAST, told rows and what hangs on what that name a boundary. */
final class WorldEdges {
    private static final int LEAST = Integer.MIN_VALUE;
    private static final int MOST = Integer.MAX_VALUE;
    private static final String NO_INDEX = "IndexOutOfBoundsException: there is no such STOP, THING, GOER, TRAIN.";
    /** GOER 0 undoes that of which he is BORN, GOER 1 does nothing. */
    private static final String GRANDSON = "thing at 5 so worth 7;goer to 2 money 99 undoes 0 born 0;goer to 2 money 99;train seats 6 stops c";

    private WorldEdges() {
    }

    static void run() {
        worlds();
        sets();
        pastAndNow();
        rings();
        ifs();
        send();
        who();
        look();
        told();
        hangs();
        kills();
    }

    private static SinglesPast gone(String station, int... goers) {
        SinglesPast x = Check.with(station);
        for (int goer : goers) {
            x.sell(goer, 0);
        }
        return x;
    }

    private static void noGoers(Check.CallOf call, int first) {
        Check.each(IndexOutOfBoundsException.class, call, first, 6, 32, MOST, -1, LEAST);
    }

    private static void worlds() {
        Edge.of(22, "WORLD, as bits (others than GOERS count for nothing).", () -> {
            SinglesPast x = Check.with("thing at 5;thing at 6;goer to 1 money 0 does 0;goer to 1 money 0 does 1");
            Check.is("both", x.world(3), 3);
            Check.is("a third one", x.world(4), 0);
            Check.is("a third one, too", x.world(6), 2);
            Check.is("all bits", x.world(-1), 3);
            Check.is("the highest bit", x.world(LEAST), 0);
            Check.is("all but the highest", x.world(MOST), 3);
            Check.is("without things", new SinglesPast().world(-1), 0);
            SinglesPast y = gone("thing at 5;thing at 6;goer to 2 money 99 does 0;goer to 2 money 99 does 1;train seats 6 stops c", 0);
            Check.is("of one gone", y.world(1), 1);
            Check.is("of one not gone", y.world(2), 2);
            Check.is("of both", y.world(3), 3);
            Check.is("of nobody", y.world(0), 0);
        });
        Edge.of(22, "THINGS by STOPS (of one STOP by numbers): a THING is so, if it is FIRST so or some THING that is so MAKES it,"
                + " and none that is so HINDERS it", () -> {
            SinglesPast x = Check.with("thing at 9;thing at 5;thing at 1 so;makes 2 1;makes 1 0;thing at 1;thing at 2;makes 3 4;thing at 3 so;hinders 3 5;"
                    + "thing at 4 so;hinders 2 6");
            Check.is("2 makes 1, that makes 0", x.world(0) & 7, 7);
            Check.is("what is not so makes nothing", x.world(0) & 24, 0);
            Check.is("what is not so hinders nothing", x.world(0) & 32, 32);
            Check.is("what is so hinders what is first so", x.world(0) & 64, 0);
            SinglesPast y = Check.with("thing at 1 so;thing at 1 so;thing at 2;makes 0 2;hinders 1 2;thing at 3;makes 0 3;thing at 2;hinders 4 3");
            Check.is("made and hindered", y.world(0) & 4, 0);
            Check.is("made by one, not hindered by one that is not so", y.world(0) & 8, 8);
            SinglesPast z = Check.with("thing at 15;thing at 0 so;makes 1 0");
            Check.is("from the first stop to the last", z.world(0), 3);
            Check.is("two of the last stop", Check.with("thing at 0;thing at 15 so;thing at 15 so").world(0), 6);
            Check.station(z, "hinders 1 0");
            Check.is("a later text", z.world(0), 2);
            Check.station(z, "makes 1 0");
            Check.is("a text later yet", z.world(0), 3);
        });
        Edge.of(22, "but if GOERS of the set whose WISH is at most its STOP have it for their DEED, it is so, if the one of the greatest number"
                + " MAKES it, and not so, if that one HINDERS it", () -> {
            SinglesPast x = Check.with("thing at 5;goer to 5 money 0 does 0;goer to 6 money 0 does 0;goer to 4 money 0 undoes 0;"
                    + "goer to 0 money 0 does 0;goer to 15 money 0 undoes 0");
            Check.is("just at its stop", x.world(1), 1);
            Check.is("one stop too late", x.world(2), 0);
            Check.is("a greater number hinders", x.world(1 | 4), 0);
            Check.is("a greater number makes", x.world(4 | 8), 1);
            Check.is("the greatest comes too late", x.world(1 | 16), 1);
            Check.is("all", x.world(31), 1);
            SinglesPast y = Check.with("thing at 1 so;thing at 5 so;hinders 0 1;goer to 5 money 0 does 1;thing at 5;makes 0 2;goer to 1 money 0 undoes 2");
            Check.is("he makes what is hindered", y.world(1), 7);
            Check.is("he hinders what is made", y.world(2), 1);
        });
    }

    private static void sets() {
        Edge.of(23, "ALSO.", () -> {
            SinglesPast x = gone(GRANDSON, 1);
            Check.is("just him", x.agrees(2), true);
            Check.is("nobody", x.agrees(0), false);
            Check.is("of a new one nobody", new SinglesPast().agrees(0), true);
        });
        Edge.of(23, "Sets are bits; of none they count for nothing.", () -> {
            SinglesPast x = gone(GRANDSON, 1);
            Check.is("others and him", x.agrees(2 | 4), true);
            Check.is("all others and him", x.agrees(-2), true);
            Check.is("others alone", x.agrees(-4), false);
            Check.is("of a new one all bits", new SinglesPast().agrees(-1), true);
        });
        Edge.of(23, "A set AGREES, if all of it are GONE", () -> {
            SinglesPast x = Check.with("thing at 5;goer to 2 money 99;goer to 2 money 99 does 0 born 0;train seats 6 stops c");
            Check.is("one who is not", x.agrees(1), false);
            Check.is("another who is not", x.agrees(2), false);
            x.sell(1, 0);
            Check.is("he is", x.agrees(2), true);
            Check.is("he is, but not the other one", x.agrees(3), false);
        });
        Edge.of(23, "in its WORLD each of it who is BORN of a THING has that so", () -> {
            SinglesPast x = gone("thing at 5;goer to 2 money 99 born 0;goer to 2 money 99 does 0;train seats 6 stops c", 0);
            Check.is("it is not so", x.agrees(1), false);
            x.sell(1, 0);
            Check.is("by the other one it is", x.agrees(3), true);
        });
        Edge.of(23, "and each who is GONE, but not of it, is BORN of a THING that is not so.", () -> {
            SinglesPast x = gone("thing at 5;thing at 6 so;goer to 2 money 99 born 0;goer to 2 money 99 born 1;goer to 2 money 99;train seats 6 stops c", 0);
            Check.is("he is", x.agrees(0), true);
            x.sell(1, 0);
            Check.is("the other one's is so", x.agrees(0), false);
            Check.is("with the other one", x.agrees(2), true);
            x.sell(2, 0);
            Check.is("one is born of none", x.agrees(2), false);
            Check.is("with him", x.agrees(6), true);
        });
        Edge.of(24, "AGREE: how many sets AGREE.", () -> {
            Check.is("of a new one", new SinglesPast().agree(), 1);
            SinglesPast x = gone(GRANDSON, 0);
            Check.is("none", x.agree(), 0);
            SinglesPast y = Check.with("thing at 5;thing at 5;thing at 5;thing at 5;thing at 5;thing at 5;train seats 6 stops b");
            Check.station(y, "goer to 1 money 99 does 0 born 0;goer to 1 money 99 does 1 born 1;goer to 1 money 99 does 2 born 2;"
                    + "goer to 1 money 99 does 3 born 3;goer to 1 money 99 does 4 born 4;goer to 1 money 99 does 5 born 5");
            for (int g = 0; g < 6; g++) {
                Check.is("so many gone: " + g, y.agree(), 1 << g);
                y.sell(g, 0);
            }
            Check.is("all sets", y.agree(), 64);
            Check.is("all of them", y.agrees(63), true);
        });
    }

    private static void pastAndNow() {
        Edge.of(25, "PAST: the AGREEING set of the fewest GOERS (of several the least as bits); none.", () -> {
            Check.is("of a new one", new SinglesPast().past(), 0);
            String each = "thing at 5 so;thing at 6 so;goer to 1 money 99 undoes 1 born 0;goer to 1 money 99 undoes 0 born 1;train seats 6 stops b";
            Check.is("either: the least", gone(each, 0, 1).past(), 1);
            // 2 undoes what 0 and 1 are born of; 0 undoes what 2 is born of: {0 1} or {2}.
            String two = "thing at 5 so;thing at 6 so;goer to 1 money 99 undoes 1 born 0;goer to 1 money 99 born 0;goer to 1 money 99 undoes 0 born 1;"
                    + "train seats 6 stops b";
            SinglesPast x = gone(two, 0, 1, 2);
            Check.is("two sets agree", x.agree(), 2);
            Check.is("the fewest", x.past(), 4);
            Check.is("none", gone(GRANDSON, 0).past(), -1);
        });
        Edge.of(25, "PAST, as bits; NONE.", () -> {
            SinglesPast x = gone(GRANDSON, 1);
            Check.is("the one", x.past(), 2);
            x.sell(0, 0);
            Check.is("none", x.past(), -1);
            x.recall(0);
            Check.is("the one again", x.past(), 2);
        });
        Edge.of(26, "NOW: the WORLD of the PAST (of nobody, if there is none).", () -> {
            SinglesPast x = gone("thing at 5 so;thing at 6;goer to 2 money 99 undoes 0 born 0;goer to 2 money 99 does 1;train seats 6 stops c", 1);
            Check.is("of the past", x.now(), 3);
            x.sell(0, 0);
            Check.is("none agrees", x.past(), -1);
            Check.is("of nobody", x.now(), 1);
            Check.is("of a new one", new SinglesPast().now(), 0);
            SinglesPast y = gone("thing at 5 so;thing at 6;goer to 2 money 99 undoes 0;goer to 2 money 99 does 1 born 0;train seats 6 stops c", 0, 1);
            Check.is("one is gone, but not of the past", y.past(), 1);
            Check.is("he does nothing in it", y.now(), 0);
        });
        Edge.of(49, "UNBORN: GOERS BORN of a THING that is not so NOW, as bits.", () -> {
            SinglesPast x = Check.with("thing at 5;thing at 6 so;goer to 2 money 99 born 0;goer to 2 money 99 born 1;goer to 2 money 99;"
                    + "goer to 2 money 99 does 0;train seats 6 stops c");
            Check.is("not gone, too", x.unborn(), 1);
            x.sell(3, 0);
            Check.is("it is so now", x.unborn(), 0);
            SinglesPast y = gone("thing at 5 so;goer to 2 money 99 undoes 0;goer to 2 money 99 born 0;goer to 2 money 99 born 0;train seats 6 stops c", 0, 1);
            Check.is("gone, too", y.unborn(), 6);
            Check.is("of a new one", new SinglesPast().unborn(), 0);
        });
        Edge.of(51, "WORTH of NOW: that of all THINGS that are so, together.", () -> {
            SinglesPast x = Check.with("thing at 5 so worth 99;thing at 6 worth 50;thing at 6 so worth 0;thing at 6 so worth 99");
            Check.is("two and one of none", x.worth(), 198);
            Check.is("of a new one", new SinglesPast().worth(), 0);
        });
    }

    private static void rings() {
        Edge.of(27, "RING: the fewest GONE ones (of several the least as bits) such that, if these alone were GONE, no set would AGREE", () -> {
            String alone = "thing at 5 so;thing at 6 so;goer to 1 money 99;goer to 1 money 99 undoes 0 born 0;goer to 1 money 99 undoes 1 born 1;"
                    + "train seats 6 stops b";
            Check.is("of two the least", gone(alone, 0, 1, 2).ring(), 2);
            Check.is("who is not gone is none", gone(alone, 0, 2).ring(), 4);
            // 0 makes what 1 is born of, 1 undoes what 0 is born of; 2 undoes what he himself is born of.
            String two = "thing at 5 so;thing at 6;thing at 7 so;goer to 1 money 99 does 1 born 0;goer to 1 money 99 undoes 0 born 1;"
                    + "goer to 1 money 99 undoes 2 born 2;train seats 6 stops b";
            Check.is("two", gone(two, 0, 1).ring(), 3);
            Check.is("one is fewer than two", gone(two, 0, 1, 2).ring(), 4);
            // Each makes what the next one is born of, but the last one undoes what the first one is born of.
            String all = "thing at 5 so;" + "thing at 5;".repeat(5) + "goer to 1 money 99 does 1 born 0;goer to 1 money 99 does 2 born 1;"
                    + "goer to 1 money 99 does 3 born 2;goer to 1 money 99 does 4 born 3;goer to 1 money 99 does 5 born 4;"
                    + "goer to 1 money 99 undoes 0 born 5;train seats 6 stops b";
            Check.is("all six", gone(all, 0, 1, 2, 3, 4, 5).ring(), 63);
            Check.is("five of them are none", gone(all, 0, 1, 2, 3, 5).ring(), -1);
        });
        Edge.of(27, "(never nobody: of nobody the set of nobody does); none.", () -> {
            Check.is("of a new one", new SinglesPast().ring(), -1);
            Check.is("nobody gone", Check.with(GRANDSON).ring(), -1);
            Check.is("one gone who agrees", gone(GRANDSON, 1).ring(), -1);
        });
        Edge.of(27, "RING, as bits; NONE.", () -> {
            SinglesPast x = gone(GRANDSON, 1, 0);
            Check.is("one of two", x.ring(), 1);
            x.recall(0);
            Check.is("none", x.ring(), -1);
            // A third one may mend what would be a ring by itself.
            SinglesPast y = gone("thing at 5 so;goer to 2 money 99 undoes 0 born 0;goer to 2 money 99 undoes 0;train seats 6 stops c", 0, 1);
            Check.is("there is a past", y.past(), 2);
            Check.is("but he alone could not be", y.ring(), 1);
        });
    }

    private static void ifs() {
        Edge.of(28, "IF of a GOER: the NOW, if he was GONE, too (or was not, if he is), as bits.", () -> {
            SinglesPast x = Check.with("thing at 5;thing at 6 so;goer to 2 money 99 does 0;goer to 2 money 99 undoes 1 born 1;train seats 6 stops c");
            Check.is("if he was", x.otherwise(0), 3);
            Check.is("no past then: of nobody", x.otherwise(1), 2);
            x.sell(0, 0);
            Check.is("if he was not", x.otherwise(0), 2);
            Check.is("nothing stays", x.gone(), 1);
        });
        Edge.of(28, NO_INDEX, () -> {
            SinglesPast x = Check.with(GRANDSON);
            noGoers(g -> x.otherwise(g), 2);
            Check.is("the last one", x.otherwise(1), 1);
        });
        Edge.of(29, "HEAVY: the GOER whose CHANGES have the most WORTH together (of several the least; none).", () -> {
            SinglesPast x = Check.with("thing at 5 worth 4;thing at 6 worth 4;makes 0 1;thing at 5 worth 9;thing at 5 worth 8;thing at 5 worth 0;"
                    + "goer to 2 money 99 does 4;goer to 2 money 99 does 0;goer to 2 money 99 does 3;train seats 6 stops c");
            Check.is("8 together, as 8: the least", x.heavy(), 1);
            Check.station(x, "goer to 2 money 99 does 2");
            Check.is("9", x.heavy(), 3);
            x.sell(3, 0);
            Check.is("who is gone changes, too", x.heavy(), 3);
            SinglesPast y = Check.with("thing at 5;goer to 2 money 99;goer to 6 money 99 does 0");
            Check.is("none changes anything: the least", y.heavy(), 0);
        });
        Edge.of(29, "HEAVY; NONE.", () -> {
            Check.is("of a new one", new SinglesPast().heavy(), -1);
            Check.is("without goers", Check.with("thing at 5 so").heavy(), -1);
            Check.is("one", Check.with("thing at 5 so;goer to 1 money 1").heavy(), 0);
        });
    }

    private static int send(SinglesPast x, int... rows) {
        Check.rows(x, rows);
        return x.send();
    }

    private static void send() {
        Edge.of(30, "the fewest GOERS not GONE to be GONE, too (of several the least as bits), so that there is a PAST and NOW all rows are so"
                + " (0, if it is so already); none.", () -> {
            SinglesPast x = Check.with("thing at 5;thing at 5;thing at 3;makes 2 0;makes 2 1;goer to 1 money 0 does 0;goer to 1 money 0 does 1;"
                    + "goer to 1 money 0 does 2;goer to 1 money 0 does 0");
            Check.is("so already", send(x, 0, 0, 1, 0), 0);
            Check.is("of three the least", send(x, 0, 1), 1);
            Check.is("one is fewer than two", send(x, 0, 1, 1, 1), 4);
            Check.is("two, if one may not", send(x, 0, 1, 1, 1, 2, 0), 3);
            Check.is("none: told so and not", send(x, 0, 1, 0, 0), -1);
            Check.is("none: nobody can", send(x, 2, 1, 1, 0), -1);
            SinglesPast all = Check.with("thing at 5;".repeat(6) + "goer to 1 money 0 does 0;goer to 1 money 0 does 1;goer to 1 money 0 does 2;"
                    + "goer to 1 money 0 does 3;goer to 1 money 0 does 4;goer to 1 money 0 does 5");
            Check.is("all six", send(all, 0, 1, 1, 1, 2, 1, 3, 1, 4, 1, 5, 1), 63);
            Check.is("all but the first", send(all, 0, 0, 1, 1, 2, 1, 3, 1, 4, 1, 5, 1), 62);
            SinglesPast y = gone("thing at 5 so;goer to 2 money 99 undoes 0 born 0;goer to 2 money 99;goer to 2 money 99 undoes 0;train seats 6 stops c", 0);
            Check.is("no past", y.past(), -1);
            Check.is("so that there is one", send(y), 4);
            Check.is("in which it is not so", send(y, 0, 0), 4);
            Check.is("it cannot be so", send(y, 0, 1), -1);
            y.sell(2, 0);
            Check.is("now it is so already", send(y, 0, 0), 0);
            SinglesPast z = gone("thing at 5 so;thing at 6;goer to 2 money 99 undoes 0;goer to 2 money 99 does 1 born 0;goer to 2 money 99 does 1;"
                    + "train seats 6 stops c", 0);
            Check.is("sent, but not of the past: another one", send(z, 1, 1), 4);
            z.deed(2, -1, true);
            Check.is("sent, but not of the past: none", send(z, 1, 1), -1);
            Check.is("as it is", send(z, 1, 0, 0, 0), 0);
            Check.is("who is gone cannot be sent, nor called back", send(y, 0, 1), -1);
        });
        Edge.of(30, "Uses the TAPE up: SEND (of each two bytes: the THING, 1 or 0; at most 40 bytes), as bits; NONE.", () -> {
            SinglesPast x = Check.with("thing at 5;goer to 1 money 0;goer to 1 money 0 does 0");
            Check.is("one row", send(x, 0, 1), 2);
            Check.is("used up", x.end(1), false);
            int[] rows = new int[40];
            for (int i = 1; i < 40; i += 2) {
                rows[i] = 1;
            }
            Check.is("40 bytes", send(x, rows), 2);
            rows[39] = 0;
            Check.is("the last row counts", send(x, rows), -1);
        });
        Edge.of(30, "IllegalArgumentException: the TAPE is not that (none may be told).", () -> {
            SinglesPast x = Check.with("thing at 5;goer to 1 money 0 does 0");
            Check.is("none told", send(x), 0);
            Check.is("none told of a new one", new SinglesPast().send(), 0);
            wrongRows(x, x::send);
        });
    }

    private static void wrongRows(SinglesPast x, Check.Call call) {
        int[][] wrong = {{0}, {0, 1, 0}, {0, 2}, {0, 255}, {1, 0}, {255, 0}, {0, 1, 1, 1}, {32, 1}, {'0', '1'}, new int[41], new int[42], new int[400]};
        for (int[] rows : wrong) {
            Check.rows(x, rows);
            Check.noArgument(rows.length + " bytes", call);
            Check.is("used up", x.end(1), false);
        }
        SinglesPast y = new SinglesPast();
        Check.rows(y, 0, 0);
        Check.noArgument("there is no thing", y::send);
    }

    private static int who(SinglesPast x, boolean least, int... rows) {
        Check.rows(x, rows);
        return x.who(least);
    }

    private static void who() {
        Edge.of(31, "sets of all GOERS (GONE or not, as if just the set was GONE and all of it went) in whose WORLD all rows are so and each of the"
                + " set that is BORN of a THING has it so: how many; LEAST: the least as bits; none", () -> {
            String station = "thing at 5;thing at 6 so;goer to 1 money 99 does 0;goer to 1 money 99 undoes 1 born 0;goer to 1 money 99 born 0;train seats 6 stops b";
            for (SinglesPast x : new SinglesPast[] {Check.with(station), gone(station, 0), gone(station, 1, 2)}) {
                // Without 0 neither 1 nor 2 is born: {} {0} {0 1} {0 2} {0 1 2}.
                Check.is("all", who(x, false), 5);
                Check.is("the least", who(x, true), 0);
                Check.is("0 so", who(x, false, 0, 1), 4);
                Check.is("the least of them", who(x, true, 0, 1), 1);
                Check.is("1 not so", who(x, false, 1, 0), 2);
                Check.is("the least of them", who(x, true, 1, 0), 3);
                Check.is("none", who(x, false, 0, 0, 1, 0), 0);
                Check.is("no least", who(x, true, 0, 0, 1, 0), -1);
            }
            SinglesPast y = Check.with("goer to 1 money 1;goer to 1 money 1;goer to 1 money 1;goer to 1 money 1;goer to 1 money 1;goer to 1 money 1");
            Check.is("all 64", who(y, false), 64);
            Check.is("of a new one nobody", who(new SinglesPast(), false), 1);
        });
        Edge.of(31, "Uses the TAPE up: WHO (the TAPE likewise): how many (least false), or LEAST; NONE.", () -> {
            SinglesPast x = Check.with("thing at 5;goer to 1 money 0 does 0");
            Check.is("how many", who(x, false, 0, 1), 1);
            Check.is("used up", x.end(1), false);
            Check.is("least", who(x, true, 0, 1), 1);
            Check.is("used up", x.end(1), false);
            Check.is("0 is no NONE", who(x, false, 0, 1, 0, 0), 0);
            Check.is("NONE", who(x, true, 0, 1, 0, 0), -1);
            Check.is("40 bytes", who(x, false, new int[40]), 1);
        });
        Edge.of(31, "IllegalArgumentException: the TAPE is not that.", () -> {
            SinglesPast x = Check.with("thing at 5;goer to 1 money 0 does 0");
            wrongRows(x, () -> x.who(false));
            SinglesPast y = Check.with("thing at 5;goer to 1 money 0 does 0");
            wrongRows(y, () -> y.who(true));
        });
    }

    private static int look(SinglesPast x, int... rows) {
        Check.rows(x, rows);
        return x.look();
    }

    private static void look() {
        Edge.of(32, "LOOK: the THING by which those that fit are parted so that the greater part is the least (of several the least;"
                + " none with fewer than two).", () -> {
            SinglesPast x = Check.with("thing at 5;thing at 6 so;thing at 7;goer to 1 money 0 does 0;goer to 1 money 0 undoes 1 born 0;goer to 1 money 0 does 2");
            // {} {0} {0 1} {2} {0 2} {0 1 2}: 0 so in 4, 1 so in 4, 2 so in 3.
            Check.is("3 and 3", look(x), 2);
            Check.is("2 and 1 by two of them: the least", look(x, 2, 1), 0);
            Check.is("just two", look(x, 1, 0), 2);
            Check.is("just one", look(x, 1, 0, 2, 0), -1);
            Check.is("none", look(x, 0, 0, 1, 0), -1);
            Check.is("one set of a new one", look(new SinglesPast()), -1);
            Check.is("one set without goers", look(Check.with("thing at 5")), -1);
            Check.is("two sets, one world: the least", look(Check.with("thing at 5;thing at 5;goer to 1 money 1")), 0);
            Check.is("two sets, no thing", look(Check.with("goer to 1 money 1")), -1);
            SinglesPast y = gone("thing at 5;thing at 6;goer to 2 money 99 does 0;goer to 2 money 99 does 1;train seats 6 stops c", 0, 1);
            Check.is("gone or not", look(y), 0);
            Check.is("gone or not, of two", look(y, 0, 1), 1);
            Check.is("64 sets, one world", look(Check.with("thing at 5;" + "goer to 1 money 1;".repeat(5) + "goer to 1 money 1")), 0);
        });
        Edge.of(32, "Uses the TAPE up: LOOK (the TAPE likewise); NONE.", () -> {
            SinglesPast x = Check.with("thing at 5;thing at 6;goer to 1 money 0 does 1");
            Check.is("two sets", look(x, 0, 0), 1);
            Check.is("used up", x.end(1), false);
            Check.is("40 bytes", look(x, new int[40]), 1);
            Check.is("NONE", look(x, 0, 1), -1);
        });
        Edge.of(32, "IllegalArgumentException: the TAPE is not that.", () -> {
            SinglesPast x = Check.with("thing at 5;goer to 1 money 0 does 0");
            wrongRows(x, x::look);
        });
    }

    /** What holds of the three that read told rows. */
    private static void told() {
        Edge.of(30, "told are rows: a THING and whether it is to be so (1) or not (0)", () -> {
            SinglesPast x = Check.with("thing at 5;thing at 5;thing at 5;thing at 5;thing at 5;thing at 5;thing at 5;thing at 5;goer to 1 money 0 does 7");
            Check.is("the last thing so", send(x, 7, 1), 1);
            Check.is("the last thing not so", send(x, 7, 0), 0);
            Check.rows(x, 8, 0);
            Check.noArgument("a ninth", x::send);
        });
        Edge.of(31, "WHO: told are rows likewise", () -> {
            SinglesPast x = Check.with("thing at 5;goer to 1 money 0 does 0");
            Check.is("a row told twice", who(x, false, 0, 1, 0, 1), 1);
            Check.is("told so and not", who(x, false, 0, 1, 0, 0), 0);
        });
    }

    private static void hangs() {
        Edge.of(33, "HANGS of a THING: all THINGS that would be otherwise in NOW, if it was FIRST otherwise, all else as it is, as bits.", () -> {
            SinglesPast x = Check.with("thing at 1 so;thing at 2;thing at 3 so;thing at 4;makes 0 1;hinders 1 2;makes 2 3");
            Check.is("all, itself too", x.hangs(0), 15);
            Check.is("made anyway", x.hangs(1), 0);
            Check.is("hindered anyway", x.hangs(2), 0);
            Check.is("itself alone", x.hangs(3), 8);
            SinglesPast y = gone("thing at 5;goer to 2 money 99 undoes 0 born 0;train seats 6 stops c", 0);
            Check.is("he is not born", y.now(), 0);
            Check.is("if it was first so, there is no past: of nobody", y.hangs(0), 1);
            Check.is("nothing stays", y.thing(0, 1), 0);
            String two = "thing at 5;thing at 6 so;goer to 2 money 99 undoes 0;goer to 2 money 99 does 1;train seats 6 stops c";
            SinglesPast z = Check.with(two);
            Check.is("who is not gone undoes nothing", z.hangs(0), 1);
            Check.is("nor makes anything", z.hangs(1), 2);
            z = gone(two, 0);
            Check.is("who is gone does", z.hangs(0), 0);
            Check.is("the other one yet makes nothing", z.hangs(1), 2);
            z = gone(two, 1);
            Check.is("the first yet undoes nothing", z.hangs(0), 1);
            Check.is("the other one makes it anyway", z.hangs(1), 0);
            SinglesPast told = Check.with("thing at 5;goer to 9 money 99;train seats 6 stops ck");
            told.wish(0, 2);
            told.deed(0, 0, false);
            told.sell(0, 0);
            Check.is("a wish and a deed are told, and he is gone", told.hangs(0), 0);
            told.recall(0);
            Check.is("he is called back", told.hangs(0), 1);
            told.wish(0, 10);
            told.sell(0, 0);
            Check.is("he is gone too late", told.hangs(0), 1);
        });
        Edge.of(33, NO_INDEX, () -> {
            SinglesPast x = Check.with("thing at 5;thing at 6");
            noGoers(t -> x.hangs(t), 2);
            Check.is("the last one", x.hangs(1), 2);
            noGoers(t -> new SinglesPast().hangs(t), 0);
        });
        Edge.of(34, "KEY: the THING by which the most are (of several the least; none).", () -> {
            SinglesPast x = Check.with("thing at 1;thing at 2;thing at 3;makes 1 2;thing at 2;thing at 3;makes 3 4");
            Check.is("of two the least", x.key(), 1);
            SinglesPast y = gone("thing at 5;thing at 6;goer to 2 money 99 does 0;goer to 2 money 99 does 1;train seats 6 stops c", 0, 1);
            Check.is("nothing hangs on any: the least", y.key(), 0);
            Check.is("the last of all", Check.with("thing at 9;thing at 2;makes 1 0").key(), 1);
        });
        Edge.of(34, "KEY; NONE.", () -> {
            Check.is("of a new one", new SinglesPast().key(), -1);
            Check.is("without things", Check.with("goer to 1 money 1").key(), -1);
            Check.is("one", Check.with("thing at 1").key(), 0);
        });
        Edge.of(35, "LOOSE: THINGS that neither MAKE nor HINDER nor are MADE nor HINDERED, as bits.", () -> {
            SinglesPast x = Check.with("thing at 1;thing at 2;thing at 3;thing at 4;thing at 5;thing at 5;thing at 5;thing at 5;makes 0 1;hinders 2 3");
            Check.is("the last four", x.loose(), 0xF0);
            Check.station(x, "makes 0 7;hinders 2 4");
            Check.is("two yet", x.loose(), 0x60);
            Check.is("of a new one", new SinglesPast().loose(), 0);
            Check.is("a deed is no tie", Check.with("thing at 1;goer to 1 money 1 does 0 born 0").loose(), 1);
        });
    }

    private static void kills() {
        Edge.of(36, "KILLS of two GOERS: whether in the WORLD of the first one alone the THING of which the other one is BORN is not so"
                + " (not, if he is BORN of none).", () -> {
            String station = "thing at 5 so;thing at 6;goer to 5 money 99 undoes 0;goer to 6 money 99 undoes 0;goer to 2 money 99 born 0;"
                    + "goer to 2 money 99;goer to 2 money 99 born 1;goer to 2 money 99 does 1;train seats 6 stops cf";
            for (SinglesPast x : new SinglesPast[] {Check.with(station), gone(station, 0, 2, 5)}) {
                Check.is("kills", x.kills(0, 2), true);
                Check.is("comes too late", x.kills(1, 2), false);
                Check.is("one born of none", x.kills(0, 3), false);
                Check.is("it is not so anyway", x.kills(3, 4), true);
                Check.is("he makes it", x.kills(5, 4), false);
            }
        });
        Edge.of(36, "IllegalArgumentException: both are one.", () -> {
            SinglesPast x = Check.with(GRANDSON);
            Check.noArgument("0 and 0", () -> x.kills(0, 0));
            Check.noArgument("1 and 1", () -> x.kills(1, 1));
        });
        Edge.of(36, NO_INDEX, () -> {
            SinglesPast x = Check.with(GRANDSON);
            noGoers(g -> x.kills(g, 0), 2);
            noGoers(g -> x.kills(0, g), 2);
            noGoers(g -> x.kills(g, g), 2);
        });
    }
}
