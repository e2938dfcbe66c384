import java.util.NoSuchElementException;

/** Promises 57 to 63: the sentences about THE LOG, SEED, undoing, THE IMAGE and counts that name a boundary. */
final class KeepEdges {
    private static final int LEAST = Integer.MIN_VALUE;
    private static final int MOST = Integer.MAX_VALUE;
    private static final String SMALL = "thing at 5;thing at 6 so;goer to 4 money 100 nerve 100 does 0;goer to 4 money 30;goer to 7 money 30;"
            + "train seats 1 stops e;train seats 2 stops eh;day 7";

    private KeepEdges() {
    }

    static void run() {
        led();
        log();
        seed();
        undo();
        acts();
        forgetting();
        image();
        counts();
    }

    /** GOER 1 goes first of all, then GOER 0 goes and is called back 30 times. */
    private static SinglesPast sixtyOne() {
        SinglesPast x = Check.with("goer to 0 money 999;goer to 1 money 99;train seats 1 stops a;train seats 1 stops b;day 3");
        x.sell(1, 1);
        for (int i = 0; i < 30; i++) {
            x.sell(0, 0);
            x.recall(0);
        }
        return x;
    }

    private static void led() {
        Edge.of(57, "LED: how many rows of THE LOG are of a GOER; the DAY of the latest (none).", () -> {
            SinglesPast x = Check.with(SMALL);
            Check.is("no row", x.led(0, false), 0);
            Check.is("no day", x.led(0, true), -1);
            x.days(1);
            Check.is("a row", x.led(0, false), 1);
            Check.is("its day", x.led(0, true), 7);
            x.recall(0);
            Check.is("a calling back is a row", x.led(0, false), 2);
            Check.is("the day of the latest", x.led(0, true), 8);
            SinglesPast y = Check.with("goer to 0 money 99 nerve 0;goer to 0 money 99 nerve 0;goer to 0 money 99 nerve 0;train seats 6 stops a");
            y.sell(0, 0);
            y.sell(2, 0);
            y.recall(2);
            y.days(1);
            y.recall(0);
            y.sell(2, 0);
            Check.is("two of the first", y.led(0, false), 2);
            Check.is("three of the last", y.led(2, false), 3);
            Check.is("the latest of the first", y.led(0, true), 1);
            Check.is("the latest of the last", y.led(2, true), 1);
        });
        Edge.of(57, "LED: how many rows (day false), or the DAY; NONE.", () -> {
            SinglesPast x = Check.with("goer to 0 money 99;goer to 0 money 99;train seats 6 stops a");
            x.sell(1, 0);
            Check.is("on the first day", x.led(1, true), 0);
            Check.is("not of the other one", x.led(0, true), -1);
            Check.is("no row of the other one", x.led(0, false), 0);
            SinglesPast y = sixtyOne();
            Check.is("his row is gone", y.led(1, false), 0);
            Check.is("its day is gone", y.led(1, true), -1);
            Check.is("all rows", y.led(0, false), 60);
        });
        Edge.of(57, "IndexOutOfBoundsException: there is no such STOP, THING, GOER, TRAIN.", () -> {
            SinglesPast x = Check.with(SMALL);
            Check.each(IndexOutOfBoundsException.class, g -> x.led(g, false), 3, 6, MOST, -1, LEAST);
            Check.each(IndexOutOfBoundsException.class, g -> x.led(g, true), 3, 6, MOST, -1, LEAST);
        });
    }

    private static void log() {
        Edge.of(58, "THE LOG: the latest 60 goings and callings back: DAY, the GOER, the TRAIN, COST (of one called back - 1).", () -> {
            SinglesPast x = sixtyOne();
            Check.is("60", x.count(8), 60);
            Check.is("the oldest is a going", x.log(59, 3), 10);
            Check.is("of the other one", x.log(59, 1), 0);
            Check.is("the latest is a calling back", x.log(0, 3), -1);
            for (int ago = 0; ago < 60; ago++) {
                Check.is("row " + ago, x.log(ago, 3), ago % 2 == 0 ? -1 : 10);
            }
            x.undo();
            Check.is("60 yet", x.count(8), 60);
            Check.is("the oldest of all is there again", x.log(59, 1), 1);
            Check.is("the latest is a going", x.log(0, 3), 10);
            x.undo();
            Check.is("one fewer", x.count(8), 59);
        });
        Edge.of(58, "THE LOG so many ago (0 the latest) what 0 DAY, 1 the GOER, 2 the TRAIN, 3 COST (- 1); - 2 without.", () -> {
            SinglesPast x = Check.with(SMALL, "cost 2");
            for (int what = 0; what < 4; what++) {
                Check.is("without rows", x.log(0, what), -2);
            }
            x.nerve(1, 0);
            x.sell(2, 1);
            x.days(1);
            x.recall(2);
            int[] latest = {8, 2, 1, -1};
            int[] middle = {7, 0, 0, 12};
            int[] oldest = {7, 2, 1, 12};
            for (int what = 0; what < 4; what++) {
                Check.is("the latest " + what, x.log(0, what), latest[what]);
                Check.is("one ago " + what, x.log(1, what), middle[what]);
                Check.is("the oldest " + what, x.log(2, what), oldest[what]);
                Check.is("one behind it " + what, x.log(3, what), -2);
                Check.is("far behind " + what, x.log(MOST, what), -2);
                Check.is("below 0 " + what, x.log(-1, what), -2);
                Check.is("far below 0 " + what, x.log(LEAST, what), -2);
            }
            Check.is("60 of 60", sixtyOne().log(60, 0), -2);
        });
        Edge.of(58, "NoSuchElementException: another what.", () -> {
            SinglesPast x = Check.with(SMALL);
            Check.each(NoSuchElementException.class, what -> x.log(0, what), 4, -1, MOST, LEAST);
            x.sell(0, 0);
            Check.each(NoSuchElementException.class, what -> x.log(0, what), 4, -1, MOST, LEAST);
            Check.each(NoSuchElementException.class, what -> x.log(-1, what), 4, -1);
        });
    }

    private static void seed() {
        Edge.of(59, "SEED: what it was.", () -> {
            SinglesPast x = new SinglesPast();
            Check.is("at first", x.seed(0), 1);
            Check.is("0", x.seed(-1), 0);
            Check.is("-1", x.seed(MOST), -1);
            Check.is("the most", x.seed(LEAST), MOST);
            Check.is("the least", x.seed(1), LEAST);
            Check.is("it is no act", x.count(9), 0);
        });
    }

    private interface Act {
        void on(SinglesPast x);
    }

    private static SinglesPast oneSold() {
        SinglesPast x = Check.with(SMALL, "cost 3");
        x.sell(2, 1);
        return x;
    }

    private static void undo() {
        Edge.of(60, "UNDONE: the latest ACT not undone yet (12 are remembered; DAYS of one call are one)", () -> {
            SinglesPast x = Check.with(SMALL);
            for (int i = 0; i < 20; i++) {
                x.pay(0, 1);
            }
            Check.is("12 of 20", x.count(9), 12);
            for (int i = 1; i <= 5; i++) {
                Check.is("undone", x.undo(), true);
                Check.is("by one", x.goer(0, 4), 120 - i);
            }
            Check.is("7 yet", x.count(9), 7);
            for (int i = 0; i < 10; i++) {
                x.pay(0, 1);
            }
            Check.is("12 again", x.count(9), 12);
            for (int i = 0; i < 12; i++) {
                Check.is("undone", x.undo(), true);
            }
            Check.is("none any more", x.count(9), 0);
            Check.is("none to undo", x.undo(), false);
            Check.is("113 stays", x.goer(0, 4), 113);
            x.days(60);
            Check.is("one act", x.count(9), 1);
            x.undo();
            Check.is("all sixty", x.count(5), 7);
        });
        Edge.of(60, "all is as ahead of it (but for the TAPE, fault(), THE IMAGE).", () -> {
            Act[] acts = {x -> x.days(3), x -> x.sell(1, 1), x -> x.pay(0, 5), x -> x.nerve(0, 3), x -> x.wish(0, 0), x -> x.deed(0, 1, false),
                x -> x.deed(0, -1, false), x -> x.quarrel(0, 1, true), x -> x.quarrel(0, 1, false), x -> x.stops(0, 1), x -> x.recall(2)};
            for (int i = 0; i < acts.length; i++) {
                SinglesPast x = oneSold();
                String before = Seen.of(x);
                acts[i].on(x);
                Check.is("acts by " + i, x.count(9), 2);
                Check.is("something is otherwise by " + i, Seen.of(x).equals(before), false);
                Check.is("undone " + i, x.undo(), true);
                Check.is("as ahead of " + i, Seen.of(x), before);
                // Another one: both together would ask one object too often.
                SinglesPast y = oneSold();
                String answers = Seen.answers(y);
                acts[i].on(y);
                Check.is("undone again " + i, y.undo(), true);
                Check.is("answers as ahead of " + i, Seen.answers(y), answers);
            }
            SinglesPast x = Check.with(SMALL);
            x.pay(0, 1);
            x.image();
            Check.tape(x, "dawn");
            Check.noArgument("a wrong text", x::station);
            Check.tape(x, "day 9");
            x.undo();
            Check.is("fault stays", x.fault(), 0);
            Check.is("the tape stays", x.end(6), false);
            Check.is("the image stays", x.back(), true);
            Check.is("money as in the image", x.goer(0, 4), 101);
            Check.is("the text of the tape", x.station(), 2);
            Check.is("day", x.count(5), 9);
        });
        Edge.of(60, "UNDONE: whether there was one.", () -> {
            SinglesPast x = Check.with(SMALL);
            String before = Seen.of(x);
            Check.is("none", x.undo(), false);
            Check.is("nothing is otherwise", Seen.of(x), before);
            Check.noState("what throws is no act", () -> x.recall(0));
            Check.is("none yet", x.undo(), false);
            x.sell(0, 0);
            Check.is("one", x.undo(), true);
            Check.is("none any more", x.undo(), false);
            Check.is("none of a new one", new SinglesPast().undo(), false);
            SinglesPast y = Check.with("thing at 3 so;thing at 5 so");
            Check.is("none behind a text", y.undo(), false);
            Check.is("what is so is not touched by it", y.now(), 3);
        });
    }

    private static void acts() {
        Edge.of(60, "ACTS: DAYS; a ticket is sold to a GOER for a TRAIN (as on a DAY, by which he CAN go); MONEY is given; NERVE is told; a WISH is told;"
                + " a DEED is told; two SHUN one another, or do not any more; a TRAIN stops elsewhere; one is called back", () -> {
            SinglesPast x = Check.with(SMALL);
            Act[] acts = {y -> y.sell(2, 1), y -> y.pay(0, 1), y -> y.nerve(0, 1), y -> y.wish(0, 1), y -> y.deed(0, 1, true),
                y -> y.quarrel(0, 1, true), y -> y.quarrel(0, 1, false), y -> y.stops(0, 1), y -> y.recall(2), y -> y.days(1)};
            for (int i = 0; i < acts.length; i++) {
                Check.is("ahead of act " + i, x.count(9), i);
                acts[i].on(x);
            }
            Check.is("all ten", x.count(9), 10);
            x.seed(5);
            x.trial(60, true);
            x.span(60, true);
            x.ahead(0, 60);
            x.image();
            x.end(0);
            x.send();
            Check.is("nothing else is one", x.count(9), 10);
            SinglesPast same = Check.with(SMALL);
            Act[] again = {y -> y.nerve(0, 100), y -> y.wish(0, 4), y -> y.deed(0, 0, true), y -> y.deed(1, -1, false), y -> y.quarrel(0, 1, false),
                y -> y.stops(0, 16)};
            for (int i = 0; i < again.length; i++) {
                again[i].on(same);
                Check.is("what was so already is told, " + i, same.count(9), i + 1);
            }
            SinglesPast rich = Check.with("goer to 1 money 999;goer to 1 money 0 nerve 0");
            rich.pay(0, 1);
            Check.is("money is given to one who has the most", rich.count(9), 1);
            rich.days(1);
            Check.is("a day on which nobody goes", rich.count(9), 2);
        });
    }

    private static void forgetting() {
        Edge.of(60, "A text, going back: none are remembered.", () -> {
            SinglesPast x = Check.with(SMALL);
            x.pay(0, 1);
            Check.station(x, "");
            Check.is("a text of the station, even an empty one", x.count(9), 0);
            Check.is("none to undo", x.undo(), false);
            x.pay(0, 1);
            Check.law(x, "");
            Check.is("a law", x.count(9), 0);
            Check.is("none to undo", x.undo(), false);
            x.pay(0, 1);
            x.image();
            Check.is("an image is none of these", x.count(9), 1);
            x.back();
            Check.is("going back", x.count(9), 0);
            Check.is("none to undo", x.undo(), false);
            Check.is("all three were paid", x.goer(0, 4), 103);
            x.pay(0, 1);
            Check.tape(x, "dawn");
            Check.noArgument("a wrong text", x::station);
            Check.tape(x, "dawn");
            Check.noArgument("a wrong law", x::law);
            Check.is("wrong ones are none", x.count(9), 1);
            SinglesPast y = Check.with(SMALL);
            y.pay(0, 1);
            Check.is("no image", y.back(), false);
            Check.is("then one is remembered yet", y.count(9), 1);
        });
    }

    private static void image() {
        Edge.of(61, "THE IMAGE (one) of all may be kept, and gone back to (but for the TAPE, fault() and THE IMAGE itself).", () -> {
            SinglesPast x = Check.with(SMALL, "cost 3");
            x.sell(2, 1);
            x.seed(77);
            x.image();
            Check.station(x, "thing at 9;makes 0 2;goer to 3 money 3;train seats 1 stops c;day 500");
            Check.law(x, "cost 9;bar");
            x.days(2);
            Check.tape(x, "dawn");
            Check.noArgument("a wrong text", x::station);
            Check.tape(x, "day 9");
            Check.is("back", x.back(), true);
            Check.is("fault stays", x.fault(), 0);
            Check.is("the tape stays", x.end(6), false);
            Check.is("seed", x.seed(1), 77);
            Check.is("rows", x.count(8), 1);
            Check.is("gone", x.gone(), 4);
            x.recall(2);
            x.pay(2, 13);
            x.back();
            Check.is("back again: gone", x.gone(), 4);
            Check.is("seed again", x.seed(1), 77);
            // As a new one of the same text and law, but for the ticket sold.
            SinglesPast y = Check.with(SMALL, "cost 3");
            y.sell(2, 1);
            Check.is("all but the act", Seen.of(x), Seen.of(y).replaceFirst(" 1 \nthing", " 0 \nthing"));
        });
        Edge.of(62, "and gone back to (but for the TAPE, fault() and THE IMAGE itself)", () -> {
            SinglesPast x = Check.with("thing at 1 so;thing at 2;thing at 3 so;goer to 1 money 20 does 1;train seats 1 stops b");
            x.image();
            Check.is("ahead of it", x.now(), 5);
            Check.station(x, "makes 0 1;hinders 0 2");
            Check.is("made and hindered", x.now(), 3);
            x.back();
            Check.is("neither made nor hindered any more", x.now(), 5);
            Check.station(x, "thing at 2 so;hinders 0 3");
            x.sell(0, 0);
            Check.is("he makes it", x.now(), 7);
            x.back();
            Check.is("he is not gone any more", x.now(), 5);
            Check.is("nor is there the thing", x.count(0), 3);
            Check.station(x, "thing at 2 so");
            Check.is("another one in its place, that none hinders", x.now(), 13);
            SinglesPast y = Check.with("day 3");
            y.image();
            Check.station(y, "thing at 9 so worth 9;thing at 12;makes 0 1;goer to 1 money 999 nerve 100 undoes 0 born 1;goer to 3 money 800 born 0;"
                    + "goer to 4 money 70 does 1;shuns 0 1;train seats 6 stops bde;train seats 3 stops abde;train seats 2 stops e");
            y.back();
            Check.tape(y, SMALL);
            Check.is("other things, goers, trains in their places", y.station(), 2);
            SinglesPast z = Check.with(SMALL);
            z.seed(1);
            Check.is("what they answer", Seen.answers(y), Seen.answers(z));
            Check.station(y, "thing at 15;goer to 15 money 1;train seats 1 stops p");
            y.back();
            Check.station(y, SMALL);
            y.image();
            Check.station(y, "thing at 1 so worth 90;makes 2 0;hinders 2 1;goer to 1 money 900 nerve 99 does 2;goer to 1 money 30;train seats 3 stops b");
            y.days(3);
            y.back();
            Check.is("what they answer again", Seen.answers(y), Seen.answers(z));
            Check.is("nor is hindered by the first", x.thing(0, 4), 0);
        });
        Edge.of(61, "THE IMAGE is kept.", () -> {
            SinglesPast x = Check.with(SMALL);
            x.image();
            x.pay(0, 1);
            x.image();
            x.pay(0, 1);
            x.back();
            Check.is("the latest one alone", x.goer(0, 4), 101);
            x.back();
            Check.is("it is there yet", x.goer(0, 4), 101);
            Check.is("keeping one is no act", x.count(9), 0);
            SinglesPast y = new SinglesPast();
            y.image();
            Check.station(y, SMALL);
            y.back();
            Check.is("of a new one", Seen.of(y), Seen.of(new SinglesPast()));
            Check.noIndex("no thing", () -> y.thing(0, 0));
            Check.noIndex("no goer", () -> y.goer(0, 0));
            Check.noIndex("no train", () -> y.train(0, 0));
            Check.rows(y, 0, 0);
            Check.noArgument("no row about a thing", y::send);
            Check.is("no goer is in a set", y.world(-1) * 10 + (y.agrees(-1) ? 1 : 0), 1);
            Check.is("what a new one answers", Seen.answers(y), Seen.answers(new SinglesPast()));
        });
        Edge.of(62, "One goes back to THE IMAGE: true; false, and nothing happens, if none was kept.", () -> {
            SinglesPast x = Check.with(SMALL);
            x.pay(0, 1);
            String before = Seen.of(x);
            Check.is("none was kept", x.back(), false);
            Check.is("nothing happens", Seen.of(x), before);
            x.image();
            Check.is("one was kept", x.back(), true);
            Check.is("as often as one likes", x.back(), true);
        });
    }

    private static void counts() {
        Edge.of(63, "0 THINGS, 1 GOERS, 2 TRAINS, 3 texts of THE STATION, 4 LINES of THE LAW (NONE without one), 5 DAY, 6 how many are GONE,"
                + " 7 MONEY of all together, 8 rows of THE LOG, 9 acts that can be UNDONE.", () -> {
            SinglesPast x = new SinglesPast();
            int[] first = {0, 0, 0, 0, -1, 0, 0, 0, 0, 0};
            for (int what = 0; what < 10; what++) {
                Check.is("of a new one " + what, x.count(what), first[what]);
            }
            Check.station(x, SMALL);
            Check.is("without a law", x.count(4), -1);
            Check.law(x, "");
            Check.is("a law without lines", x.count(4), 0);
            Check.law(x, "cost 1;cost 2");
            x.sell(0, 0);
            x.sell(2, 1);
            x.recall(0);
            int[] then = {2, 3, 2, 1, 2, 7, 1, 160 - 26, 3, 3};
            for (int what = 0; what < 10; what++) {
                Check.is("then " + what, x.count(what), then[what]);
            }
            SinglesPast y = Check.with("goer to 1 money 999;".repeat(5) + "goer to 1 money 999");
            Check.is("the most money", y.count(7), 5994);
        });
        Edge.of(63, "NONE for another what.", () -> {
            SinglesPast x = Check.with(SMALL, "cost 1");
            for (int what : new int[] {10, 11, -1, MOST, LEAST}) {
                Check.is("what " + what, x.count(what), -1);
            }
        });
    }
}
