import java.util.NoSuchElementException;

/** Promises 7 to 12: the sentences about what there is, COST, FEAR and CAN that name a boundary. */
final class ThereEdges {
    private static final int LEAST = Integer.MIN_VALUE;
    private static final int MOST = Integer.MAX_VALUE;
    private static final String TWO_OF_ALL = "thing at 3;thing at 4;goer to 3 money 20;goer to 4 money 20;"
            + "train seats 1 stops d;train seats 1 stops e";

    private ThereEdges() {
    }

    static void run() {
        indices();
        things();
        goers();
        trains();
        laws();
        can();
        trainOfGoer();
    }

    private static void noIndices(Check.CallOf call, int first) {
        Check.each(IndexOutOfBoundsException.class, call, first, first + 1, 31, 32, 64, MOST, -1, -2, LEAST);
    }

    private interface On {
        void call(SinglesPast x, int n);
    }

    /** With fewer GOERS than TRAINS, and with more: neither is counted for the other. */
    private static void fewerOf(On goers, On trains) {
        SinglesPast x = Check.with("thing at 3;thing at 4;thing at 5;goer to 3 money 20;train seats 1 stops d;train seats 1 stops e");
        goers.call(x, 0);
        trains.call(x, 1);
        Check.noIndex("no second goer", () -> goers.call(x, 1));
        Check.noIndex("no third train", () -> trains.call(x, 2));
        SinglesPast y = Check.with("thing at 3;thing at 4;thing at 5;goer to 3 money 20;goer to 4 money 20;train seats 1 stops d");
        goers.call(y, 1);
        trains.call(y, 0);
        Check.noIndex("no third goer", () -> goers.call(y, 2));
        Check.noIndex("no second train", () -> trains.call(y, 1));
    }

    private static void indices() {
        Edge.of(7, "IndexOutOfBoundsException: there is no such STOP, THING, GOER, TRAIN.", () -> {
            SinglesPast x = Check.with(TWO_OF_ALL);
            noIndices(t -> x.thing(t, 0), 2);
            Check.is("the last one", x.thing(1, 0), 4);
            noIndices(t -> new SinglesPast().thing(t, 0), 0);
            noIndices(t -> x.thing(t, 8), 2);
        });
        Edge.of(8, "IndexOutOfBoundsException: there is no such STOP, THING, GOER, TRAIN.", () -> {
            SinglesPast x = Check.with(TWO_OF_ALL);
            noIndices(g -> x.goer(g, 0), 2);
            Check.is("the last one", x.goer(1, 0), 4);
            noIndices(g -> new SinglesPast().goer(g, 0), 0);
            noIndices(g -> x.goer(g, 11), 2);
        });
        Edge.of(9, "IndexOutOfBoundsException: there is no such STOP, THING, GOER, TRAIN.", () -> {
            SinglesPast x = Check.with(TWO_OF_ALL);
            noIndices(t -> x.train(t, 0), 2);
            fewerOf((y, g) -> y.goer(g, 0), (y, t) -> y.train(t, 0));
            Check.is("the last one", x.train(1, 0), 16);
            noIndices(t -> new SinglesPast().train(t, 0), 0);
            noIndices(t -> x.train(t, 4), 2);
        });
        Edge.of(10, "IndexOutOfBoundsException: there is no such STOP, THING, GOER, TRAIN.", () -> {
            SinglesPast x = Check.with(TWO_OF_ALL, "cost 5");
            noIndices(g -> x.cost(g, 0), 2);
            noIndices(t -> x.cost(0, t), 2);
            fewerOf((y, g) -> y.cost(g, 0), (y, t) -> y.cost(0, t));
            Check.is("the last ones", x.cost(1, 1), 15);
        });
        Edge.of(11, "IndexOutOfBoundsException: there is no such STOP, THING, GOER, TRAIN.", () -> {
            SinglesPast x = Check.with(TWO_OF_ALL, "fear 5");
            noIndices(g -> x.fear(g, 0), 2);
            noIndices(t -> x.fear(0, t), 2);
            fewerOf((y, g) -> y.fear(g, 0), (y, t) -> y.fear(0, t));
            Check.is("the last ones", x.fear(1, 1), 5);
        });
        Edge.of(12, "IndexOutOfBoundsException: there is no such STOP, THING, GOER, TRAIN.", () -> {
            SinglesPast x = Check.with(TWO_OF_ALL);
            noIndices(g -> x.may(g, 0), 2);
            noIndices(t -> x.may(0, t), 2);
            fewerOf((y, g) -> y.may(g, 0), (y, t) -> y.may(0, t));
            Check.is("the last ones", x.may(1, 1), true);
        });
    }

    private static void things() {
        Edge.of(7, "Of a THING what 0 the STOP, 1 1 if FIRST so, 2 WORTH, 3 which it MAKES, 4 which it HINDERS, as bits, 5 1 if so NOW,"
                + " 6 LINE, 7 LATEST (NONE).", () -> {
            SinglesPast x = Check.with("thing at 3 worth 7;thing at 4;thing at 5 so;makes 0 1;hinders 0 2;train seats 1 stops e");
            int[] first = {3, 0, 7, 2, 4, 0, 1, -1};
            int[] last = {5, 1, 1, 0, 0, 1, 2, 4};
            for (int what = 0; what < 8; what++) {
                Check.is("the first one's " + what, x.thing(0, what), first[what]);
                Check.is("the last one's " + what, x.thing(2, what), last[what]);
            }
        });
        Edge.of(7, "NoSuchElementException: another what.", () -> {
            SinglesPast x = Check.with(TWO_OF_ALL);
            Check.each(NoSuchElementException.class, what -> x.thing(0, what), 8, 9, -1, MOST, LEAST);
            Check.is("the last what", x.thing(0, 7), 3);
        });
        Edge.of(7, "LATEST of a THING: the last STOP, at most its own, at which some TRAIN stops; none.", () -> {
            SinglesPast x = Check.with("thing at 5;thing at 0;thing at 15;train seats 1 stops d");
            Check.is("without a stop behind it", x.thing(0, 7), 3);
            Check.is("none ahead of the first", x.thing(1, 7), -1);
            x.stops(0, 1 << 5);
            Check.is("its own", x.thing(0, 7), 5);
            x.stops(0, 1 << 6);
            Check.is("one behind it", x.thing(0, 7), -1);
            x.stops(0, 1 | 1 << 6 | 1 << 15);
            Check.is("the first", x.thing(0, 7), 0);
            Check.is("the first of all", x.thing(1, 7), 0);
            Check.is("the last of all", x.thing(2, 7), 15);
            Check.station(x, "train seats 1 stops e");
            Check.is("some other train", x.thing(0, 7), 4);
            Check.is("without trains", Check.with("thing at 15").thing(0, 7), -1);
        });
        Edge.of(7, "LINE of a THING: the most THINGS one behind another, each MAKING or HINDERING the next one, that end in it: how many.", () -> {
            SinglesPast x = Check.with("thing at 9;thing at 7;thing at 5;thing at 3;makes 3 2;hinders 2 1;makes 1 0;makes 3 0;thing at 1;makes 4 0");
            int[] lines = {4, 3, 2, 1, 1};
            for (int t = 0; t < 5; t++) {
                Check.is("line of " + t, x.thing(t, 6), lines[t]);
            }
            SinglesPast y = Check.with("thing at 0;thing at 1;thing at 2;thing at 3;thing at 4;thing at 5;thing at 6;thing at 15;"
                    + "makes 0 1;hinders 1 2;makes 2 3;hinders 3 4;makes 4 5;hinders 5 6");
            Check.is("seven", y.thing(6, 6), 7);
            Check.is("one alone", y.thing(7, 6), 1);
            Check.station(y, "makes 6 7");
            Check.is("all eight", y.thing(7, 6), 8);
        });
    }

    private static void goers() {
        Edge.of(8, "1 the DEED (NONE), 2 1 if he MAKES it (0 without a DEED), 3 of what he is BORN (NONE)", () -> {
            SinglesPast x = Check.with("thing at 3;thing at 4;goer to 1 money 1;goer to 1 money 1 does 1 born 0;goer to 1 money 1 undoes 0 born 1");
            int[][] due = {{-1, 0, -1}, {1, 1, 0}, {0, 0, 1}};
            for (int g = 0; g < 3; g++) {
                for (int what = 1; what <= 3; what++) {
                    Check.is("of " + g + " what " + what, x.goer(g, what), due[g][what - 1]);
                }
            }
            x.deed(1, -1, true);
            Check.is("no deed any more", x.goer(1, 1), -1);
            Check.is("0 without a deed", x.goer(1, 2), 0);
        });
        Edge.of(8, "7 1 if GONE, 8 by which TRAIN (NONE), 9 TRAIN (NONE), 10 CHANGES, as bits.", () -> {
            SinglesPast x = Check.with("thing at 3;goer to 3 money 20 does 0;train seats 1 stops e;train seats 1 stops d");
            Check.is("not gone", x.goer(0, 7), 0);
            Check.is("by none", x.goer(0, 8), -1);
            Check.is("the train he can go by", x.goer(0, 9), 1);
            Check.is("what he would change", x.goer(0, 10), 1);
            x.sell(0, 1);
            Check.is("gone", x.goer(0, 7), 1);
            Check.is("by it", x.goer(0, 8), 1);
            Check.is("he can go by none", x.goer(0, 9), -1);
            Check.is("what he has changed", x.goer(0, 10), 1);
        });
        Edge.of(8, "NoSuchElementException: another what.", () -> {
            SinglesPast x = Check.with(TWO_OF_ALL);
            Check.each(NoSuchElementException.class, what -> x.goer(0, what), 11, 12, -1, MOST, LEAST);
            Check.is("the last what", x.goer(0, 10), 0);
        });
    }

    private static void trains() {
        Edge.of(9, "Of a TRAIN what 0 its STOPS, as bits, 1 SEATS, 2 how many are GONE by it, 3 SHARE.", () -> {
            SinglesPast x = Check.with("goer to 0 money 20;goer to 15 money 20;train seats 2 stops ap;train seats 6 stops b");
            x.sell(0, 0);
            x.sell(1, 0);
            int[][] due = {{0x8001, 2, 2, 100}, {2, 6, 0, 0}};
            for (int t = 0; t < 2; t++) {
                for (int what = 0; what < 4; what++) {
                    Check.is("of " + t + " what " + what, x.train(t, what), due[t][what]);
                }
            }
        });
        Edge.of(9, "NoSuchElementException: another what.", () -> {
            SinglesPast x = Check.with(TWO_OF_ALL);
            Check.each(NoSuchElementException.class, what -> x.train(0, what), 4, 5, -1, MOST, LEAST);
            Check.is("the last what", x.train(0, 3), 0);
        });
        Edge.of(9, "SHARE of a TRAIN of all GONE, in hundredths, rounded down (0 without).", () -> {
            SinglesPast x = Check.with("goer to 1 money 99;goer to 1 money 99;goer to 1 money 99;goer to 1 money 99;goer to 1 money 99;"
                    + "goer to 1 money 99;train seats 6 stops b;train seats 6 stops b");
            Check.is("without one gone", x.train(0, 3), 0);
            x.sell(0, 0);
            Check.is("all", x.train(0, 3), 100);
            Check.is("none", x.train(1, 3), 0);
            x.sell(1, 1);
            Check.is("half", x.train(0, 3), 50);
            x.sell(2, 1);
            Check.is("33.3", x.train(0, 3), 33);
            Check.is("66.6", x.train(1, 3), 66);
            x.sell(3, 1);
            x.sell(4, 1);
            x.sell(5, 1);
            Check.is("16.6", x.train(0, 3), 16);
            Check.is("83.3", x.train(1, 3), 83);
        });
    }

    private static void laws() {
        Edge.of(10, "COST: 10 and the sum of N of all cost LINES that hold.", () -> {
            SinglesPast x = Check.with(TWO_OF_ALL);
            Check.is("without a law", x.cost(0, 0), 10);
            Check.law(x, "");
            Check.is("without lines", x.cost(0, 0), 10);
            Check.law(x, "fear 9;bar");
            Check.is("without cost lines", x.cost(0, 0), 10);
            Check.law(x, "cost 0;cost 200 if 1 > 1");
            Check.is("none that holds is more than 0", x.cost(0, 0), 10);
            Check.law(x, "cost 1 if 1 > 2;cost 2;cost 4 if 1 < 2;cost 8 if 1 > 2;cost 16");
            Check.is("each line by itself", x.cost(0, 0), 32);
            Check.law(x, ("cost 200;").repeat(11) + "cost 200 if 1 < 2");
            Check.is("the most", x.cost(0, 0), 2410);
            Check.law(x, "cost 1 if goer < 1;cost 2 if train < 1;cost 4 if goer > 0 and train > 0");
            int[] costs = {13, 11, 12, 14};
            for (int i = 0; i < 4; i++) {
                Check.is("of goer and train " + i, x.cost(i / 2, i % 2), costs[i]);
            }
        });
        Edge.of(11, "FEAR: the sum of N of all fear LINES that hold.", () -> {
            SinglesPast x = Check.with(TWO_OF_ALL);
            Check.is("without a law", x.fear(0, 0), 0);
            Check.law(x, "");
            Check.is("without lines", x.fear(0, 0), 0);
            Check.law(x, "cost 9;bar;fear 7 if 1 > 1");
            Check.is("none that holds", x.fear(0, 0), 0);
            Check.law(x, ("fear 200;").repeat(11) + "fear 200 if 1 < 2");
            Check.is("the most", x.fear(0, 0), 2400);
        });
        Edge.of(12, "BARRED: whether some bar LINE holds.", () -> {
            SinglesPast x = Check.with(TWO_OF_ALL);
            Check.is("without a law", x.may(0, 0), true);
            Check.law(x, "bar if 1 > 1;bar if goer > 0");
            Check.is("no line holds", x.may(0, 0), true);
            Check.is("one holds", x.may(1, 1), false);
            Check.law(x, "bar");
            Check.is("a line that always holds", x.may(0, 0), false);
            Check.law(x, "bar;bar");
            Check.is("two that hold", x.may(0, 0), false);
        });
    }

    private static void can() {
        Edge.of(12, "CAN: he is not GONE", () -> {
            SinglesPast x = Check.with("goer to 3 money 99;train seats 6 stops d;train seats 6 stops d");
            Check.is("not gone", x.may(0, 0), true);
            x.sell(0, 0);
            Check.is("gone by it", x.may(0, 0), false);
            Check.is("gone by another", x.may(0, 1), false);
            x.recall(0);
            Check.is("called back", x.may(0, 0), true);
        });
        Edge.of(12, "the TRAIN stops at his WISH", () -> {
            SinglesPast x = Check.with("goer to 0 money 99;goer to 15 money 99;train seats 6 stops ap;train seats 6 stops bo");
            Check.is("the first stop", x.may(0, 0), true);
            Check.is("the last stop", x.may(1, 0), true);
            Check.is("one behind", x.may(0, 1), false);
            Check.is("one ahead", x.may(1, 1), false);
        });
        Edge.of(12, "is not full, COST is at most MONEY", () -> {
            SinglesPast x = Check.with("goer to 3 money 99;goer to 3 money 99;goer to 3 money 99;goer to 3 money 10;goer to 3 money 9;train seats 2 stops d");
            Check.is("just as much", x.may(3, 0), true);
            Check.is("one less", x.may(4, 0), false);
            x.sell(0, 0);
            Check.is("a seat is left", x.may(1, 0), true);
            x.sell(1, 0);
            Check.is("no seat is left", x.may(2, 0), false);
            x.recall(0);
            Check.law(x, "cost 89");
            Check.is("just as much by law", x.may(2, 0), true);
            Check.law(x, "cost 90");
            Check.is("one less by law", x.may(2, 0), false);
        });
        Edge.of(12, "and nobody whom he SHUNS is GONE by it", () -> {
            SinglesPast x = Check.with("goer to 3 money 99;goer to 3 money 99;goer to 3 money 99;shuns 2 0;train seats 6 stops d;train seats 6 stops d");
            x.sell(1, 0);
            Check.is("another one is there", x.may(0, 0), true);
            x.sell(0, 1);
            Check.is("he is there", x.may(2, 1), false);
            Check.is("he is by another train", x.may(2, 0), true);
            x.quarrel(0, 2, false);
            Check.is("no longer shunned", x.may(2, 1), true);
        });
    }

    private static void trainOfGoer() {
        Edge.of(8, "TRAIN of a GOER: the first by which he CAN go; none.", () -> {
            SinglesPast x = Check.with("goer to 3 money 99;goer to 3 money 99;goer to 3 money 9;train seats 1 stops e;train seats 1 stops d;"
                    + "train seats 1 stops d");
            Check.is("the first that stops there", x.goer(0, 9), 1);
            Check.is("none without money", x.goer(2, 9), -1);
            x.sell(0, 1);
            Check.is("the next that is not full", x.goer(1, 9), 2);
            Check.is("none of one gone", x.goer(0, 9), -1);
            Check.is("none without trains", Check.with("goer to 3 money 99").goer(0, 9), -1);
            Check.is("none of five", Check.with("goer to 3 money 99" + ";train seats 1 stops e".repeat(5)).goer(0, 9), -1);
            Check.is("the last of five", Check.with("goer to 3 money 99" + ";train seats 1 stops e".repeat(4) + ";train seats 1 stops d").goer(0, 9), 4);
        });
    }
}
