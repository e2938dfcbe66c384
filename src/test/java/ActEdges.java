/** Promises 13 to 21: the sentences about acts that name a boundary. */
final class ActEdges {
    private static final int LEAST = Integer.MIN_VALUE;
    private static final int MOST = Integer.MAX_VALUE;
    /** GOER 2 is GONE by TRAIN 1; one act is remembered. */
    private static final String SMALL = "thing at 5;thing at 6 so;goer to 4 money 100 does 0;goer to 4 money 30;goer to 7 money 30;"
            + "train seats 1 stops e;train seats 2 stops eh;day 7";

    private ActEdges() {
    }

    static void run() {
        days();
        draws();
        sell();
        kinds();
        pay();
        nerve();
        wish();
        deed();
        quarrel();
        stops();
        recall();
    }

    private static SinglesPast small() {
        SinglesPast x = Check.with(SMALL, "cost 5;fear 7");
        x.sell(2, 1);
        return x;
    }

    private interface On {
        void call(SinglesPast x, int n);
    }

    /** Each of these numbers throws, and nothing is otherwise then. */
    private static void none(Class<? extends RuntimeException> want, On on, int... numbers) {
        for (int n : numbers) {
            SinglesPast x = small();
            Seen.unchanged(x, want, () -> on.call(x, n));
        }
    }

    private static void noGoers(On on) {
        none(IndexOutOfBoundsException.class, on, 3, 6, 32, MOST, -1, LEAST);
    }

    private static void noTrains(On on) {
        none(IndexOutOfBoundsException.class, on, 2, 5, 32, MOST, -1, LEAST);
    }

    private static int next(int seed) {
        return 1103515245 * seed + 12345;
    }

    private static int drawn(int seed) {
        return (next(seed) >>> 16) % 32768 % 100;
    }

    private static void days() {
        Edge.of(13, "So many DAYS more (1 to 60): how many are GONE by these.", () -> {
            SinglesPast x = Check.with("goer to 4 money 20 nerve 100;goer to 4 money 20 nerve 0;goer to 4 money 20 nerve 100;goer to 4 money 9 nerve 100;"
                    + "train seats 6 stops e");
            x.sell(2, 0);
            Check.is("one by one day", x.days(1), 1);
            Check.is("the day", x.count(5), 1);
            Check.is("who was gone is gone", x.gone(), 5);
            Check.is("none by sixty", x.days(60), 0);
            Check.is("the day then", x.count(5), 61);
            x.nerve(1, 100);
            x.pay(3, 1);
            Check.is("two by sixty", x.days(60), 2);
            Check.is("the day at last", x.count(5), 121);
            Check.is("without goers", new SinglesPast().days(60), 0);
            SinglesPast y = Check.with("goer to 4 money 20 nerve 100;".repeat(6) + "train seats 6 stops e");
            Check.is("all six by one day", y.days(1), 6);
        });
        Edge.of(13, "IllegalArgumentException: they are none.", () ->
            none(IllegalArgumentException.class, (x, n) -> x.days(n), 0, 61, -1, LEAST, MOST));
        Edge.of(13, "DAY is 1 more (9999 at most).", () -> {
            SinglesPast x = Check.with("goer to 4 money 20 nerve 0;train seats 6 stops e;day 999");
            for (int i = 0; i < 149; i++) {
                x.days(60);
            }
            Check.is("a day not so far", x.count(5), 9939);
            x.days(59);
            Check.is("one ahead of the last", x.count(5), 9998);
            x.days(1);
            Check.is("the last one", x.count(5), 9999);
            x.days(1);
            Check.is("no day behind it", x.count(5), 9999);
            x.undo();
            x.undo();
            x.days(60);
            Check.is("not by sixty either", x.count(5), 9999);
            int seed = x.seed(1);
            x.seed(seed);
            x.days(1);
            Check.is("but the draws go on", x.seed(1), next(seed));
            x.nerve(0, 100);
            x.days(1);
            Check.is("and he goes on the last day", x.led(0, true), 9999);
        });
        Edge.of(13, "A DAY more: each GOER, by numbers, not GONE", () -> {
            SinglesPast x = Check.with("goer to 4 money 20 nerve 100;goer to 4 money 20 nerve 100;goer to 4 money 20 nerve 100;train seats 2 stops e");
            x.sell(1, 0);
            Check.is("one has the last seat", x.days(1), 1);
            Check.is("the first one", x.gone(), 3);
            Check.is("two draws: who was gone draws none", x.seed(1), next(next(1)));
            SinglesPast y = Check.with("goer to 4 money 20 nerve 100;goer to 4 money 20 nerve 100;shuns 0 1;train seats 2 stops e;train seats 2 stops e");
            y.days(1);
            Check.is("the first by the first train", y.goer(0, 8), 0);
            Check.is("the other one, who shuns him, by the next", y.goer(1, 8), 1);
        });
    }

    private static void draws() {
        Edge.of(13, "if DRAW modulo 100 is below NERVE less FEAR of the first TRAIN by which he CAN go", () -> {
            for (int seed = 1; seed < 12; seed++) {
                SinglesPast x = Check.with("goer to 4 money 20;train seats 1 stops d;train seats 1 stops e;train seats 1 stops e",
                        "fear 3 if train > 0 and train < 2;fear 200 if not (train > 0 and train < 2)");
                int draw = Math.min(96, drawn(seed));
                x.nerve(0, draw + 3);
                x.seed(seed);
                Check.is("as great, seed " + seed, x.days(1), 0);
                x.nerve(0, draw + 4);
                x.seed(seed);
                Check.is("below by one, seed " + seed, x.days(1), drawn(seed) <= 96 ? 1 : 0);
            }
            SinglesPast y = Check.with("goer to 4 money 20 nerve 100;goer to 4 money 20 nerve 100;train seats 6 stops e;train seats 6 stops e", "fear 100 if goer > 0");
            Check.is("one has no fear", y.days(60), 1);
            Check.is("it is the first", y.gone(), 1);
            Check.law(y, "fear 100 if train < 1");
            Check.is("both fear their first train", y.days(60), 0);
        });
        Edge.of(13, "(the DRAW always; without such a TRAIN he stays)", () -> {
            SinglesPast x = Check.with("goer to 4 money 20 nerve 0;goer to 5 money 20 nerve 100;goer to 4 money 9 nerve 100;train seats 6 stops e");
            Check.is("nobody goes", x.days(1), 0);
            Check.is("three draws", x.seed(1), next(next(next(1))));
            SinglesPast y = Check.with("goer to 4 money 20;train seats 6 stops e", "fear 200;bar");
            y.days(1);
            Check.is("one who is barred draws", y.seed(1), next(1));
        });
        Edge.of(13, "he is GONE by it, MONEY is COST less.", () -> {
            SinglesPast x = Check.with("goer to 4 money 15 nerve 100;train seats 1 stops d;train seats 6 stops e", "cost 5");
            Check.is("he goes", x.days(1), 1);
            Check.is("by it", x.goer(0, 8), 1);
            Check.is("nothing is left", x.goer(0, 4), 0);
        });
        Edge.of(13, "SEED is 1103515245 times SEED and 12345, as an int that goes round; bits 16 to 30 (SEED 1 at first)", () -> {
            Check.is("seed at first", new SinglesPast().seed(0), 1);
            for (int seed : new int[] {0, 1, 2, -1, MOST, LEAST, 987654321, -987654321}) {
                SinglesPast x = Check.with("goer to 4 money 20;train seats 1 stops e");
                x.nerve(0, drawn(seed));
                x.seed(seed);
                Check.is("a draw as great, seed " + seed, x.days(1), 0);
                Check.is("goes round, seed " + seed, x.seed(seed), next(seed));
                x.nerve(0, drawn(seed) + 1);
                Check.is("a draw below, seed " + seed, x.days(1), 1);
            }
            Check.is("1 by hand", next(1), 1103527590);
            Check.is("its draw by hand", drawn(1), 16838 % 100);
        });
    }

    private static void sell() {
        Edge.of(14, "A ticket is sold: COST.", () -> {
            SinglesPast x = Check.with("goer to 4 money 15 nerve 0;train seats 1 stops e", "cost 5;fear 200");
            Check.is("just what he has, whatever he fears", x.sell(0, 0), 15);
            Check.is("nothing is left", x.goer(0, 4), 0);
            Check.is("gone", x.goer(0, 8), 0);
            Check.is("no day more", x.count(5), 0);
            Check.is("no draw", x.seed(1), 1);
            SinglesPast y = Check.with("goer to 4 money 99;goer to 4 money 99;train seats 2 stops e;train seats 2 stops e", "cost 1 if goer > 0;cost 2 if train > 0");
            Check.is("of this goer by this train", y.sell(0, 1), 12);
            Check.is("of that goer by that train", y.sell(1, 0), 11);
            Check.is("it is taken from him", y.goer(0, 4) * 100 + y.goer(1, 4), 8788);
        });
        Edge.of(14, "IllegalStateException: he CAN not.", () -> {
            String station = "goer to 4 money 99;goer to 4 money 99;goer to 4 money 14;goer to 4 money 99;goer to 5 money 99;shuns 0 1;"
                    + "train seats 2 stops e;train seats 1 stops e;train seats 1 stops e";
            String law = "cost 5;bar if goer > 2 and train > 1";
            SinglesPast y = Check.with(station, law);
            y.sell(0, 0);
            Seen.unchanged(y, IllegalStateException.class, () -> y.sell(0, 2));
            SinglesPast x = Check.with(station, law);
            x.sell(0, 0);
            x.sell(3, 1);
            Seen.unchanged(x, IllegalStateException.class, () -> x.sell(1, 0));
            Check.noState("it is full", () -> x.sell(1, 1));
            Check.noState("too little money", () -> x.sell(2, 0));
            Check.noState("it stops elsewhere", () -> x.sell(4, 0));
            x.recall(3);
            Check.noState("barred", () -> x.sell(3, 2));
        });
        Edge.of(14, "IndexOutOfBoundsException: there is no such STOP, THING, GOER, TRAIN.", () -> {
            noGoers((x, n) -> x.sell(n, 0));
            noTrains((x, n) -> x.sell(0, n));
            noTrains((x, n) -> x.sell(2, n));
        });
    }

    /** What the three kinds of exceptions mean, and that IndexOutOfBoundsException goes first of them. */
    private static void kinds() {
        Edge.of(15, "IllegalArgumentException: a number is none, or two are one.", () -> {
            SinglesPast x = small();
            Check.noArgument("a number is none", () -> x.pay(0, 0));
            Check.noArgument("two are one", () -> x.quarrel(0, 0, true));
            Check.noIndex("nobody, and a number is none", () -> x.pay(3, 0));
            Check.noIndex("nobody, and two are one", () -> x.quarrel(3, 3, true));
        });
        Edge.of(14, "IllegalStateException: it cannot be.", () -> {
            SinglesPast x = small();
            Check.noState("he is gone", () -> x.sell(2, 1));
            Check.noIndex("no train, and he is gone", () -> x.sell(2, 2));
        });
    }

    private static void pay() {
        Edge.of(15, "MONEY is given: MONEY then (999 at most).", () -> {
            SinglesPast x = Check.with("goer to 4 money 0;goer to 4 money 997;train seats 1 stops e");
            Check.is("1", x.pay(0, 1), 1);
            Check.is("998", x.pay(1, 1), 998);
            Check.is("999", x.pay(1, 1), 999);
            Check.is("no more", x.pay(1, 1), 999);
            Check.is("999 of 1", x.pay(0, 999), 999);
            Check.is("he has it", x.goer(0, 4), 999);
            x.sell(0, 0);
            Check.is("also to one gone", x.pay(0, 3), 992);
        });
        Edge.of(15, "IllegalArgumentException: n is none (1 to 999).", () -> {
            none(IllegalArgumentException.class, (x, n) -> x.pay(0, n), 0, 1000, -1, MOST, LEAST);
            Check.is("the most", Check.with("goer to 4 money 0").pay(0, 999), 999);
        });
        Edge.of(15, "IndexOutOfBoundsException: there is no such STOP, THING, GOER, TRAIN.", () -> {
            noGoers((x, n) -> x.pay(n, 1));
            noGoers((x, n) -> x.pay(n, 0));
        });
    }

    private static void nerve() {
        Edge.of(16, "NERVE is told: what it was.", () -> {
            SinglesPast x = small();
            Check.is("50 at first", x.nerve(0, 0), 50);
            Check.is("0", x.nerve(0, 100), 0);
            Check.is("100", x.nerve(0, 100), 100);
            Check.is("is", x.goer(0, 5), 100);
            Check.is("also of one gone", x.nerve(2, 1), 50);
        });
        Edge.of(16, "IllegalArgumentException: n is none (0 to 100).", () ->
            none(IllegalArgumentException.class, (x, n) -> x.nerve(0, n), -1, 101, MOST, LEAST));
        Edge.of(16, "IndexOutOfBoundsException: there is no such STOP, THING, GOER, TRAIN.", () -> {
            noGoers((x, n) -> x.nerve(n, 1));
            noGoers((x, n) -> x.nerve(n, 101));
        });
    }

    private static void wish() {
        Edge.of(17, "A WISH is told: which it was.", () -> {
            SinglesPast x = small();
            Check.is("in time for his deed", x.world(1), 3);
            Check.is("4 at first", x.wish(0, 6), 4);
            Check.is("too late for his deed", x.world(1), 2);
            Check.is("6", x.wish(0, 0), 6);
            Check.is("in time again", x.world(1), 3);
            Check.is("the first stop", x.wish(0, 15), 0);
            Check.is("the last stop", x.wish(0, 15), 15);
            Check.is("is", x.goer(0, 0), 15);
        });
        Edge.of(17, "IllegalStateException: he is GONE.", () -> {
            none(IllegalStateException.class, (x, n) -> x.wish(2, n), 0, 7, 15);
            SinglesPast x = small();
            x.recall(2);
            Check.is("called back", x.wish(2, 3), 7);
        });
        Edge.of(17, "IndexOutOfBoundsException: there is no such STOP, THING, GOER, TRAIN.", () -> {
            noGoers((x, n) -> x.wish(n, 1));
            none(IndexOutOfBoundsException.class, (x, n) -> x.wish(0, n), 16, -1, MOST, LEAST);
            none(IndexOutOfBoundsException.class, (x, n) -> x.wish(2, n), 16, -1);
        });
    }

    private static void deed() {
        Edge.of(18, "A DEED is told (thing NONE: none; makes: whether he MAKES it): of which THING it was; NONE.", () -> {
            SinglesPast x = small();
            Check.is("what he does", x.world(1), 3);
            Check.is("it was the first", x.deed(0, 1, true), 0);
            Check.is("what he does then", x.world(1), 2);
            Check.is("is the last", x.goer(0, 1) * 10 + x.goer(0, 2), 11);
            Check.is("it was the last", x.deed(0, 1, false), 1);
            Check.is("he hinders it", x.goer(0, 1) * 10 + x.goer(0, 2), 10);
            Check.is("none any more", x.deed(0, -1, true), 1);
            Check.is("is none", x.goer(0, 1), -1);
            Check.is("makes nothing", x.goer(0, 2), 0);
            Check.is("none it was", x.deed(0, -1, false), -1);
            Check.is("none it was", x.deed(0, 0, true), -1);
        });
        Edge.of(18, "IllegalStateException: he is GONE.", () -> {
            none(IllegalStateException.class, (x, n) -> x.deed(2, n, true), -1, 0, 1);
            SinglesPast x = small();
            x.recall(2);
            Check.is("called back", x.deed(2, 0, true), -1);
        });
        Edge.of(18, "IndexOutOfBoundsException: there is no such STOP, THING, GOER, TRAIN.", () -> {
            noGoers((x, n) -> x.deed(n, 0, true));
            noGoers((x, n) -> x.deed(n, -1, true));
            none(IndexOutOfBoundsException.class, (x, n) -> x.deed(0, n, true), 2, 8, 32, -2, MOST, LEAST);
            SinglesPast fewer = Check.with("thing at 3;goer to 3 money 20;goer to 4 money 20;train seats 1 stops d;train seats 1 stops e");
            Check.noIndex("more trains than things", () -> fewer.deed(0, 1, true));
            SinglesPast more = Check.with("thing at 3;thing at 3;goer to 3 money 20;train seats 1 stops d");
            Check.is("fewer trains than things", more.deed(0, 1, true), -1);
            none(IndexOutOfBoundsException.class, (x, n) -> x.deed(2, n, true), 2, -2);
        });
    }

    private static void quarrel() {
        Edge.of(19, "Two SHUN one another, or do not: whether that changed.", () -> {
            SinglesPast x = small();
            Check.is("they do", x.quarrel(0, 2, true), true);
            Check.is("they do already", x.quarrel(0, 2, true), false);
            Check.is("the other way round", x.quarrel(2, 0, true), false);
            Check.is("each the other one", x.goer(0, 6) * 10 + x.goer(2, 6), 41);
            Check.is("not any more", x.quarrel(2, 0, false), true);
            Check.is("neither the other one", x.goer(0, 6) + x.goer(2, 6), 0);
            Check.is("not already", x.quarrel(0, 2, false), false);
            Check.is("none", x.goer(0, 6) + x.goer(2, 6), 0);
            SinglesPast y = Check.with("goer to 4 money 20;".repeat(5) + "goer to 4 money 20;shuns 0 1;shuns 0 2;shuns 1 3;shuns 5 1");
            Check.is("two of them do not", y.quarrel(0, 1, false), true);
            Check.is("the others of the first stay", y.goer(0, 6), 4);
            Check.is("the others of the second stay", y.goer(1, 6), 8 + 32);
            Check.is("the last two do", y.quarrel(4, 5, true), true);
            Check.is("beside those before", y.goer(5, 6), 2 + 16);
            Check.is("and of the other one", y.goer(4, 6), 32);
        });
        Edge.of(19, "IllegalArgumentException: both are one.", () -> {
            none(IllegalArgumentException.class, (x, n) -> x.quarrel(n, n, true), 0, 1, 2);
            none(IllegalArgumentException.class, (x, n) -> x.quarrel(n, n, false), 0, 1, 2);
        });
        Edge.of(19, "IndexOutOfBoundsException: there is no such STOP, THING, GOER, TRAIN.", () -> {
            noGoers((x, n) -> x.quarrel(n, 0, true));
            noGoers((x, n) -> x.quarrel(0, n, true));
            noGoers((x, n) -> x.quarrel(n, n, true));
        });
    }

    private static void stops() {
        Edge.of(20, "A TRAIN stops elsewhere: where it did, as bits.", () -> {
            SinglesPast x = small();
            Check.is("where it did", x.stops(1, 1), 0x90);
            Check.is("the first stop", x.stops(1, 0x8000), 1);
            Check.is("the last stop", x.stops(1, 0xFFFF), 0x8000);
            Check.is("all", x.train(1, 0), 0xFFFF);
            Check.is("who is gone by it stays so", x.goer(2, 8), 1);
        });
        Edge.of(20, "IllegalArgumentException: there is no STOP of 0 to 15 (others count for nothing).", () -> {
            none(IllegalArgumentException.class, (x, n) -> x.stops(0, n), 0, 0x10000, 0xFFFF0000, LEAST);
            SinglesPast x = small();
            x.stops(0, 0x18000);
            Check.is("the last one counts", x.train(0, 0), 0x8000);
            x.stops(0, -1);
            Check.is("all that count", x.train(0, 0), 0xFFFF);
        });
        Edge.of(20, "IndexOutOfBoundsException: there is no such STOP, THING, GOER, TRAIN.", () -> {
            noTrains((x, n) -> x.stops(n, 1));
            noTrains((x, n) -> x.stops(n, 0));
        });
    }

    private static void recall() {
        Edge.of(21, "Called back: by which TRAIN he was GONE.", () -> {
            SinglesPast x = small();
            Check.is("by the last", x.recall(2), 1);
            x.sell(0, 0);
            Check.is("by the first", x.recall(0), 0);
        });
        Edge.of(21, "one is called back (not GONE, MONEY stays as it is)", () -> {
            SinglesPast x = small();
            x.recall(2);
            Check.is("not gone", x.goer(2, 7), 0);
            Check.is("by none", x.goer(2, 8), -1);
            Check.is("30 less 15", x.goer(2, 4), 15);
            Check.is("his seat is free", x.train(1, 2), 0);
            Check.is("he can go again", x.may(2, 1), true);
        });
        Edge.of(21, "IllegalStateException: he is not GONE.", () -> {
            none(IllegalStateException.class, (x, n) -> x.recall(n), 0, 1);
            SinglesPast x = small();
            x.recall(2);
            Seen.unchanged(x, IllegalStateException.class, () -> x.recall(2));
        });
        Edge.of(21, "IndexOutOfBoundsException: there is no such STOP, THING, GOER, TRAIN.", () -> noGoers((x, n) -> x.recall(n)));
    }
}
