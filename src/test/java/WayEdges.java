/** Promises 37 to 56: the sentences about seats, prices, questions, pairs, odds and days ahead that name a boundary. */
final class WayEdges {
    private static final int LEAST = Integer.MIN_VALUE;
    private static final int MOST = Integer.MAX_VALUE;
    private static final String NO_INDEX = "IndexOutOfBoundsException: there is no such STOP, THING, GOER, TRAIN.";

    private WayEdges() {
    }

    static void run() {
        colours();
        clash();
        prices();
        asks();
        pick();
        pairs();
        rests();
        odds();
        alike();
        ahead();
        trial();
        span();
    }

    private static String six(String goer) {
        return (goer + ";").repeat(5) + goer;
    }

    private static void colours(String what, SinglesPast x, int many, int... trains) {
        Check.is(what + ", how many", x.colours(-1), many);
        for (int g = 0; g < trains.length; g++) {
            Check.is(what + ", train of " + g, x.colours(g), trains[g]);
        }
    }

    private static void colours() {
        Edge.of(37, "COLOURS: GOERS not GONE put to TRAINS as if nobody was GONE, each to one that stops at his WISH, at most SEATS, none with one"
                + " whom he SHUNS, so that as many as can be go: how many", () -> {
            colours("all six", Check.with(six("goer to 0 money 0") + ";train seats 6 stops a"), 6, 0, 0, 0, 0, 0, 0);
            colours("five trains that stop elsewhere", Check.with("goer to 0 money 0" + ";train seats 1 stops b".repeat(5)), 0, -1);
            colours("five seats", Check.with(six("goer to 0 money 0") + ";train seats 5 stops a"), 5, 0, 0, 0, 0, 0, -1);
            SinglesPast x = Check.with("goer to 0 money 99;goer to 0 money 99;train seats 1 stops a", "cost 50");
            x.sell(0, 0);
            colours("the seat of one gone is free", x, 1, -1, 0);
            SinglesPast y = Check.with("goer to 0 money 99;goer to 0 money 99;goer to 1 money 99;shuns 0 1;train seats 2 stops a;train seats 2 stops a");
            colours("who shun one another", y, 2, 0, 1, -1);
            y.sell(0, 0);
            colours("one gone shuns nobody", y, 1, -1, 0, -1);
            SinglesPast z = Check.with("goer to 0 money 99;goer to 0 money 99;train seats 2 stops a;train seats 1 stops b");
            z.quarrel(0, 1, true);
            colours("shunning is told", z, 1, 0, -1);
            z.wish(0, 1);
            colours("a wish is told", z, 2, 1, 0);
            z.stops(1, 4);
            colours("a train stops elsewhere", z, 1, -1, 0);
            colours("barred or not", Check.with("goer to 0 money 0;train seats 1 stops a", "bar;cost 200"), 1, 0);
        });
        Edge.of(37, "with which TRAIN a GOER is in the first such way (GOER by GOER, none behind all TRAINS); none.", () -> {
            String station = "goer to 0 money 0;goer to 0 money 0;goer to 0 money 0;train seats 1 stops b;train seats 1 stops a;train seats 1 stops a";
            SinglesPast x = Check.with(station);
            colours("none is behind all trains", x, 2, 1, 2, -1);
            Check.station(x, "shuns 0 1;shuns 0 2;train seats 6 stops a");
            colours("the first way", x, 3, 1, 2, 3);
            SinglesPast y = Check.with("goer to 0 money 0;goer to 0 money 0;goer to 0 money 0;shuns 0 1;shuns 0 2;train seats 6 stops a");
            colours("more go without the first", y, 2, -1, 0, 0);
        });
        Edge.of(37, "COLOURS: how many (goer NONE), or which TRAIN; NONE.", () -> {
            SinglesPast x = Check.with("goer to 0 money 99;train seats 1 stops a;train seats 1 stops b");
            colours("one", x, 1, 0);
            x.sell(0, 0);
            colours("gone", x, 0, -1);
            colours("without trains", Check.with("goer to 0 money 99"), 0, -1);
            colours("of a new one", new SinglesPast(), 0);
        });
        Edge.of(37, NO_INDEX, () -> {
            SinglesPast x = Check.with("goer to 0 money 99;train seats 1 stops a");
            Check.each(IndexOutOfBoundsException.class, g -> x.colours(g), 1, 6, MOST, -2, LEAST);
            Check.each(IndexOutOfBoundsException.class, g -> new SinglesPast().colours(g), 0, -2);
        });
    }

    private static void clash() {
        Edge.of(38, "CLASH: the fewest GOERS not GONE (of several the least as bits) that, put so by themselves, cannot all go (one at least); none.", () -> {
            SinglesPast x = Check.with("goer to 0 money 99;goer to 0 money 99;goer to 1 money 99;goer to 2 money 99;shuns 0 1;train seats 6 stops a");
            Check.is("of two the least", x.clash(), 4);
            x.wish(2, 0);
            Check.is("one is fewer than two", x.clash(), 8);
            x.wish(3, 0);
            Check.is("two who shun one another", x.clash(), 3);
            x.sell(1, 0);
            Check.is("one of them is gone", x.clash(), -1);
            SinglesPast y = Check.with(six("goer to 0 money 99") + ";train seats 2 stops a;train seats 3 stops a");
            Check.is("six in five seats", y.clash(), 63);
            y.sell(0, 0);
            Check.is("as if nobody was gone", y.clash(), -1);
            SinglesPast z = Check.with("goer to 0 money 99;goer to 0 money 99;goer to 0 money 99;goer to 0 money 99;train seats 2 stops a");
            Check.is("three in two seats, the least", z.clash(), 7);
        });
        Edge.of(38, "CLASH, as bits; NONE.", () -> {
            Check.is("of a new one", new SinglesPast().clash(), -1);
            Check.is("one", Check.with("goer to 0 money 99").clash(), 1);
            Check.is("none", Check.with("goer to 0 money 0;train seats 1 stops a").clash(), -1);
        });
    }

    private static void price(String what, SinglesPast x, int stop, int price, int earns) {
        Check.is(what + ", price", x.price(stop, false), price);
        Check.is(what + ", earns", x.price(stop, true), earns);
    }

    private static void prices() {
        Edge.of(39, "PRICE of a STOP: the ticket price (0 to 999) by which it times how many GOERS not GONE whose WISH it is have MONEY for it is the most"
                + " (of several the least); EARNS: how much.", () -> {
            price("nobody", new SinglesPast(), 0, 0, 0);
            price("one without money", Check.with("goer to 0 money 0"), 0, 0, 0);
            price("one", Check.with("goer to 0 money 1"), 0, 1, 1);
            price("the most", Check.with(six("goer to 15 money 999")), 15, 999, 5994);
            SinglesPast x = Check.with("goer to 3 money 30;goer to 3 money 15;goer to 3 money 10;goer to 4 money 99;train seats 6 stops d");
            price("30, 2 times 15, 3 times 10: the least", x, 3, 10, 30);
            price("the same told from the least on", Check.with("goer to 3 money 10;goer to 3 money 15;goer to 3 money 30"), 3, 10, 30);
            x.pay(1, 1);
            price("2 times 16", x, 3, 16, 32);
            x.sell(0, 0);
            price("one of them is gone", x, 3, 10, 20);
            price("another stop", x, 4, 99, 99);
            x.wish(3, 3);
            price("another wish", x, 3, 99, 99);
            price("nobody's wish any more", x, 4, 0, 0);
        });
        Edge.of(39, NO_INDEX, () -> {
            SinglesPast x = Check.with("goer to 15 money 7");
            Check.each(IndexOutOfBoundsException.class, s -> x.price(s, false), 16, -1, MOST, LEAST);
            Check.each(IndexOutOfBoundsException.class, s -> x.price(s, true), 16, -1, MOST, LEAST);
            Check.is("the last", x.price(15, true), 7);
            Check.is("the first", x.price(0, true), 0);
        });
        Edge.of(40, "DEAREST: the STOP that EARNS the most (of several the least).", () -> {
            Check.is("of a new one", new SinglesPast().dearest(), 0);
            Check.is("without money", Check.with("goer to 5 money 0").dearest(), 0);
            Check.is("the last", Check.with("goer to 15 money 1").dearest(), 15);
            SinglesPast x = Check.with("goer to 9 money 20;goer to 7 money 10;goer to 7 money 10;train seats 6 stops h");
            Check.is("of two the least", x.dearest(), 7);
            x.pay(0, 1);
            Check.is("one more", x.dearest(), 9);
            Check.is("who is gone does not pay", soldOne(), 9);
        });
        Edge.of(41, "CROWD of a STOP: GOERS whose WISH it is, as bits.", () -> {
            SinglesPast x = Check.with("goer to 0 money 20;goer to 15 money 10;goer to 0 money 10;train seats 6 stops a");
            Check.is("the first", x.crowd(0), 5);
            Check.is("the last", x.crowd(15), 2);
            Check.is("none", x.crowd(1), 0);
            x.sell(0, 0);
            Check.is("also who is gone", x.crowd(0), 5);
            x.wish(1, 0);
            Check.is("another wish", x.crowd(0), 7);
        });
        Edge.of(41, NO_INDEX, () -> Check.each(IndexOutOfBoundsException.class, s -> new SinglesPast().crowd(s), 16, -1, MOST, LEAST));
    }

    private static int soldOne() {
        SinglesPast x = Check.with("goer to 9 money 15;goer to 7 money 10;goer to 7 money 10;train seats 6 stops h");
        x.sell(1, 0);
        return x.dearest();
    }

    private static void asks() {
        Edge.of(42, "a clerk may ask: is it behind the STOP S (S 0 to 14); the fewest questions by which at worst the one of the set is known"
                + " (0 of one or none).", () -> {
            SinglesPast x = new SinglesPast();
            int[] fewest = {0, 0, 1, 2, 2, 3, 3, 3, 3, 4, 4, 4, 4, 4, 4, 4, 4};
            for (int many = 0; many <= 16; many++) {
                Check.is("the first " + many, x.asks((1 << many) - 1, false), fewest[many]);
                Check.is("the last " + many, x.asks(0xFFFF << 16 - many & 0xFFFF, false), fewest[many]);
            }
            Check.is("far from one another", x.asks(0x8001, false), 1);
        });
        Edge.of(42, "OPENING of it: the least S that can be asked first, if the fewest are to be enough; none, if none need be asked.", () -> {
            SinglesPast x = new SinglesPast();
            Check.is("none", x.asks(0, true), -1);
            Check.is("one", x.asks(0x80, true), -1);
            Check.is("the two first", x.asks(3, true), 0);
            Check.is("the two last: the last question", x.asks(0xC000, true), 14);
            Check.is("far from one another", x.asks(0x8001, true), 0);
            Check.is("three: 1 and 2", x.asks(0x0E, true), 1);
            Check.is("four: 2 and 2", x.asks(0x1E, true), 2);
            Check.is("five: 1 and 4", x.asks(0x1F, true), 0);
            Check.is("eight: 4 and 4", x.asks(0xFF, true), 3);
            Check.is("nine: 1 and 8", x.asks(0x1FF, true), 0);
            Check.is("fifteen: 7 and 8", x.asks(0x7FFF, true), 6);
            Check.is("sixteen: 8 and 8", x.asks(0xFFFF, true), 7);
            Check.is("four with gaps", x.asks(0x8888, true), 7);
        });
        Edge.of(42, "ASKS (first false), or OPENING; NONE (STOPS of 0 to 15; others count for nothing).", () -> {
            SinglesPast x = new SinglesPast();
            Check.is("others alone", x.asks(0xFFFF0000, false), 0);
            Check.is("others alone, opening", x.asks(0xFFFF0000, true), -1);
            Check.is("all bits", x.asks(-1, false), 4);
            Check.is("all bits, opening", x.asks(-1, true), 7);
            Check.is("the last one and another", x.asks(0x18000, true), -1);
            Check.is("the highest bit and the first", x.asks(LEAST | 1, false), 0);
        });
    }

    /** In how many orders of n he who lets the first r by takes the best one. */
    private static int orders(int n, int r) {
        int[] order = new int[n];
        return ordersFrom(order, 0, n, r);
    }

    private static int ordersFrom(int[] order, int used, int n, int r) {
        int placed = Integer.bitCount(used);
        if (placed == n) {
            return takesBest(order, n, r) ? 1 : 0;
        }
        int many = 0;
        for (int year = 0; year < n; year++) {
            if ((used >> year & 1) == 0) {
                order[placed] = year;
                many += ordersFrom(order, used | 1 << year, n, r);
            }
        }
        return many;
    }

    private static boolean takesBest(int[] order, int n, int r) {
        int best = -1;
        for (int i = 0; i < n; i++) {
            if (i >= r && order[i] > best) {
                return order[i] == n - 1;
            }
            best = Math.max(best, order[i]);
        }
        return false;
    }

    private static void pick() {
        Edge.of(43, "PICK of N (1 to 10)", () -> {
            SinglesPast x = new SinglesPast();
            Check.is("of 1 the first", x.pick(1, false), 0);
            Check.is("of 1 in all orders", x.pick(1, true), 1);
            Check.is("of 10", x.pick(10, false), 3);
            Check.is("of 10 in so many orders", x.pick(10, true), 1446768);
        });
        Edge.of(43, "a man sees N years one behind another, by all orders alike, and may take just the one he sees; he lets the first R by and takes the"
                + " first one that is better than all so far: the R (0 to N less 1) by which in the most of all orders he takes the best one"
                + " (of several the least); in how many orders of N (all of them: 1 times 2 .. times N) that is.", () -> {
            SinglesPast x = new SinglesPast();
            Check.is("of 2 both are alike: the least", x.pick(2, false), 0);
            for (int n = 1; n <= 8; n++) {
                int best = 0;
                for (int r = 1; r < n; r++) {
                    best = orders(n, r) > orders(n, best) ? r : best;
                }
                Check.is("of " + n, x.pick(n, false), best);
                Check.is("of " + n + " in so many orders", x.pick(n, true), orders(n, best));
            }
        });
        Edge.of(43, "IllegalArgumentException: N is none.", () -> {
            Check.each(IllegalArgumentException.class, n -> new SinglesPast().pick(n, false), 0, 11, -1, MOST, LEAST);
            Check.each(IllegalArgumentException.class, n -> new SinglesPast().pick(n, true), 0, 11, -1, MOST, LEAST);
        });
    }

    private static void pairs(String what, SinglesPast x, int many, int... others) {
        Check.is(what + ", how many", x.pairs(-1), many);
        for (int g = 0; g < others.length; g++) {
            Check.is(what + ", with " + g, x.pairs(g), others[g]);
        }
    }

    private static void pairs() {
        Edge.of(44, "PAIRS: GOERS not GONE put two by two, each in one such pair at most, none who SHUN one another, so that pairs of one WISH are the most:"
                + " how many", () -> {
            pairs("all six", Check.with(six("goer to 0 money 0")), 3, 1, 0, 3, 2, 5, 4);
            pairs("one alone", Check.with("goer to 0 money 0"), 0, -1);
            pairs("two of unlike wish", Check.with("goer to 0 money 0;goer to 1 money 0"), 0, -1, -1);
            SinglesPast x = Check.with("goer to 0 money 99;goer to 0 money 99;goer to 0 money 99;goer to 0 money 99;shuns 0 1;train seats 6 stops a");
            pairs("two who shun one another", x, 2, 2, 3, 0, 1);
            x.sell(2, 0);
            pairs("one is gone", x, 1, -1, 3, -1, 1);
            x.quarrel(3, 0, true);
            x.quarrel(3, 1, true);
            pairs("all shun one another", x, 0, -1, -1, -1, -1);
        });
        Edge.of(44, "with whom one is in the first such way (one by one, none being the least, then the others); none.", () -> {
            pairs("none is the least", Check.with("goer to 0 money 0;goer to 0 money 0;goer to 0 money 0"), 1, -1, 2, 1);
            pairs("five", Check.with("goer to 0 money 0;goer to 0 money 0;goer to 0 money 0;goer to 0 money 0;goer to 0 money 0"), 2, -1, 2, 1, 4, 3);
            pairs("four: the least other one", Check.with("goer to 0 money 0;goer to 0 money 0;goer to 0 money 0;goer to 0 money 0"), 2, 1, 0, 3, 2);
            pairs("two wishes", Check.with("goer to 0 money 0;goer to 1 money 0;goer to 0 money 0;goer to 1 money 0;goer to 1 money 0"),
                    2, 2, -1, 0, 4, 3);
            pairs("a later other one stays alone", Check.with("goer to 0 money 0;goer to 0 money 0;goer to 1 money 0;goer to 1 money 0;"
                    + "goer to 2 money 0;goer to 1 money 0;shuns 3 5"), 2, 1, 0, 3, 2, -1, -1);
        });
        Edge.of(44, "PAIRS: how many (goer NONE), or with whom one is; NONE (also of one GONE).", () -> {
            SinglesPast x = Check.with("goer to 0 money 99;goer to 0 money 99;train seats 6 stops a");
            pairs("two", x, 1, 1, 0);
            x.sell(1, 0);
            pairs("one of them gone", x, 0, -1, -1);
            x.sell(0, 0);
            pairs("both gone", x, 0, -1, -1);
            pairs("of a new one", new SinglesPast(), 0);
        });
        Edge.of(44, NO_INDEX, () -> {
            SinglesPast x = Check.with("goer to 0 money 99");
            Check.each(IndexOutOfBoundsException.class, g -> x.pairs(g), 1, 6, MOST, -2, LEAST);
            Check.each(IndexOutOfBoundsException.class, g -> new SinglesPast().pairs(g), 0, -2);
        });
    }

    private static void rests() {
        Edge.of(45, "asking and told he has NERVE by 10, rounded down, the clerk 0 less 1; asking untold he has 0 less 2, the clerk 1; not asking but told"
                + " he has 3, the clerk 0 less 2; else both have nothing: choices (2 times his and the clerk's) from which neither would have more by its"
                + " other one: as bits.", () -> {
            SinglesPast x = Check.with("goer to 0 money 99;train seats 1 stops a");
            // Whatever he does, the clerk has more by not telling; untold, he has more by not asking.
            for (int nerve : new int[] {0, 9, 10, 29, 30, 39, 40, 99, 100}) {
                x.nerve(0, nerve);
                Check.is("nerve " + nerve, x.rests(0), 8);
            }
            x.sell(0, 0);
            Check.is("also of one gone", x.rests(0), 8);
        });
        Edge.of(45, NO_INDEX, () -> {
            SinglesPast x = Check.with("goer to 0 money 99");
            Check.each(IndexOutOfBoundsException.class, g -> x.rests(g), 1, 6, MOST, -1, LEAST);
            Check.is("the last one, without trains", x.rests(0), 8);
        });
    }

    private static void odds(String what, SinglesPast x, int goer, int... due) {
        for (int n = 0; n < due.length; n++) {
            Check.is(what + ", days " + n, x.odds(goer, n), due[n]);
        }
    }

    private static void odds() {
        Edge.of(46, "ODDS of a GOER and N DAYS (0 to 4): that he does not go in any of these, each by NERVE less FEAR of his TRAIN now"
                + " (0 to 100; 0 without a TRAIN), in 10000, rounded down each time.", () -> {
            SinglesPast x = Check.with("goer to 0 money 99 nerve 100;goer to 0 money 99 nerve 0;goer to 0 money 99 nerve 33;goer to 1 money 99 nerve 100;"
                    + "train seats 6 stops p;train seats 6 stops a;train seats 6 stops a");
            odds("surely", x, 0, 10000, 0, 0, 0, 0);
            odds("never", x, 1, 10000, 10000, 10000, 10000, 10000);
            odds("rounded down each time", x, 2, 10000, 6700, 4489, 3007, 2014);
            odds("without a train", x, 3, 10000, 10000, 10000, 10000, 10000);
            Check.law(x, "fear 90 if train < 2;fear 200 if train > 1");
            odds("less fear", x, 0, 10000, 9000, 8100, 7290, 6561);
            odds("more fear than nerve is 0", x, 2, 10000, 10000, 10000, 10000, 10000);
            Check.law(x, "fear 100");
            odds("as much fear", x, 0, 10000, 10000, 10000, 10000, 10000);
            Check.law(x, "fear 99");
            odds("one less", x, 0, 10000, 9900, 9801, 9702, 9604);
            x.nerve(0, 100);
            Check.law(x, "fear 10 if goer > 0;fear 20 if train < 2;fear 40 if goer > 2 and train < 1");
            odds("his own fear of his own train", x, 0, 10000, 2000, 400);
            x.nerve(2, 50);
            odds("another one's fear", x, 2, 10000, 8000, 6400);
            x.stops(0, 2);
            odds("of another train", x, 3, 10000, 7000, 4900);
            x.stops(1, 2);
            odds("of the next train", x, 0, 10000, 0);
            x.stops(1, 1);
            x.sell(0, 1);
            odds("gone", x, 0, 10000, 10000, 10000, 10000, 10000);
        });
        Edge.of(46, "IllegalArgumentException: N is none.", () -> {
            SinglesPast x = Check.with("goer to 0 money 99");
            Check.each(IllegalArgumentException.class, n -> x.odds(0, n), 5, -1, MOST, LEAST);
        });
        Edge.of(46, NO_INDEX, () -> {
            SinglesPast x = Check.with("goer to 0 money 99");
            Check.each(IndexOutOfBoundsException.class, g -> x.odds(g, 0), 1, 6, MOST, -1, LEAST);
            Check.each(IndexOutOfBoundsException.class, g -> x.odds(g, 5), 1, -1);
        });
    }

    private static void alike() {
        Edge.of(47, "BRAVE: the GOER not GONE of the most NERVE (of several the least; none).", () -> {
            SinglesPast x = Check.with("goer to 0 money 99 nerve 99;goer to 0 money 99 nerve 100;goer to 0 money 99 nerve 100;train seats 6 stops a");
            Check.is("of two the least", x.brave(), 1);
            x.sell(1, 0);
            Check.is("not gone", x.brave(), 2);
            x.sell(2, 0);
            x.nerve(0, 0);
            Check.is("without nerve", x.brave(), 0);
            x.nerve(0, 5);
            Check.is("with nerve again", x.brave(), 0);
            x.sell(0, 0);
            Check.is("all gone", x.brave(), -1);
            SinglesPast y = Check.with("goer to 0 money 99 nerve 99;goer to 0 money 99 nerve 98;goer to 0 money 99 nerve 100");
            y.nerve(2, 98);
            Check.is("less nerve is told", y.brave(), 0);
            y.nerve(1, 99);
            Check.is("more nerve is told, as much: the least", y.brave(), 0);
            y.nerve(1, 100);
            Check.is("more nerve is told", y.brave(), 1);
            y.nerve(0, 97);
            y.nerve(1, 96);
            Check.is("to the last one yet again", y.brave(), 2);
        });
        Edge.of(47, "BRAVE; NONE.", () -> {
            Check.is("of a new one", new SinglesPast().brave(), -1);
            Check.is("of six", Check.with(six("goer to 0 money 0") + " nerve 51").brave(), 5);
        });
        Edge.of(48, "GONE ones, as bits.", () -> {
            Check.is("of a new one", new SinglesPast().gone(), 0);
            SinglesPast x = Check.with(six("goer to 0 money 99") + ";train seats 6 stops a");
            Check.is("none", x.gone(), 0);
            x.sell(5, 0);
            Check.is("the last", x.gone(), 32);
            for (int g = 0; g < 5; g++) {
                x.sell(g, 0);
            }
            Check.is("all", x.gone(), 63);
        });
        Edge.of(50, "TWINS: pairs of GOERS of like WISH whose DEEDS are of one THING (whether they MAKE or HINDER it), or who both have none: how many.", () -> {
            Check.is("of a new one", new SinglesPast().twins(), 0);
            Check.is("one alone", Check.with("goer to 0 money 0").twins(), 0);
            Check.is("all pairs of six", Check.with(six("goer to 0 money 0")).twins(), 15);
            Check.is("both none, of unlike wish", Check.with("goer to 0 money 0;goer to 1 money 0").twins(), 0);
            Check.is("one makes, one hinders", Check.with("thing at 5;goer to 0 money 0 does 0;goer to 0 money 0 undoes 0").twins(), 1);
            Check.is("one thing, unlike wish", Check.with("thing at 5;goer to 0 money 0 does 0;goer to 1 money 0 does 0").twins(), 0);
            Check.is("two things", Check.with("thing at 5;thing at 5;goer to 0 money 0 does 0;goer to 0 money 0 does 1").twins(), 0);
            Check.is("one has none", Check.with("thing at 5;goer to 0 money 0 does 0;goer to 0 money 0").twins(), 0);
            Check.is("like wish alone counts", Check.with("goer to 3 money 7;goer to 3 money 9 nerve 3;train seats 2 stops bc;train seats 4 stops d").twins(), 1);
            SinglesPast x = Check.with("goer to 0 money 99;goer to 0 money 99;goer to 0 money 99;train seats 6 stops a");
            x.sell(0, 0);
            x.sell(1, 0);
            Check.is("also of two gone, and of one of them", x.twins(), 3);
            x.wish(2, 1);
            Check.is("another wish", x.twins(), 1);
            SinglesPast y = Check.with("thing at 5;goer to 0 money 0 does 0;goer to 0 money 0 does 0");
            Check.is("one thing", y.twins(), 1);
            y.deed(0, -1, true);
            Check.is("another deed", y.twins(), 0);
            y.deed(1, -1, true);
            Check.is("both none", y.twins(), 1);
            y.wish(0, 1);
            Check.is("another wish of the first", y.twins(), 0);
            y.wish(1, 1);
            Check.is("and of the second", y.twins(), 1);
            y.deed(0, 0, false);
            y.deed(1, 0, true);
            Check.is("one thing again", y.twins(), 1);
            Check.is("like money does not", Check.with("goer to 7 money 3;goer to 3 money 3;train seats 3 stops ab").twins(), 0);
        });
        Edge.of(52, "EMPTY: TRAINS by which nobody is GONE, as bits.", () -> {
            SinglesPast x = Check.with("goer to 0 money 99;train seats 1 stops a;train seats 1 stops a;train seats 1 stops a;train seats 1 stops a;train seats 1 stops a");
            Check.is("all", x.empty(), 31);
            x.sell(0, 4);
            Check.is("all but the last", x.empty(), 15);
            x.recall(0);
            x.sell(0, 0);
            Check.is("all but the first", x.empty(), 30);
            Check.is("of a new one", new SinglesPast().empty(), 0);
        });
        Edge.of(53, "NEVER: STOPS at which no TRAIN stops, as bits.", () -> {
            Check.is("of a new one", new SinglesPast().never(), 0xFFFF);
            SinglesPast x = Check.with("train seats 1 stops a;train seats 1 stops p");
            Check.is("all but first and last", x.never(), 0x7FFE);
            x.stops(0, -1);
            Check.is("none", x.never(), 0);
        });
    }

    /** On DAY 9999, with TRAIN 0 for GOER 0. */
    private static SinglesPast lastDay(String law) {
        SinglesPast x = Check.with("goer to 0 money 99 nerve 100;train seats 6 stops a;day 999", "bar");
        for (int i = 0; i < 150; i++) {
            x.days(60);
        }
        Check.is("the last day", x.count(5), 9999);
        Check.law(x, law);
        return x;
    }

    private static void ahead() {
        Edge.of(54, "AHEAD by N DAYS (0 to 60): as so many DAYS in which each who CAN goes (no DRAWS).", () -> {
            SinglesPast x = Check.with("goer to 0 money 99 nerve 0;goer to 0 money 99 nerve 0;goer to 0 money 9;train seats 1 stops a;train seats 6 stops a",
                    "bar if day < 59;fear 200");
            Check.is("59 are too few", x.ahead(0, 59), -1);
            Check.is("by the sixtieth", x.ahead(0, 60), 0);
            Check.is("the next one by the next train", x.ahead(1, 60), 1);
            Check.is("one cannot", x.ahead(2, 60), -1);
            Check.is("nobody is gone", x.gone(), 0);
            Check.is("no day", x.count(5), 0);
            Check.is("no draws", x.seed(1), 1);
            Check.is("no act", x.count(9), 0);
            Check.is("no row", x.count(8), 0);
            Check.is("no money", x.count(7), 207);
        });
        Edge.of(54, "AHEAD by N DAYS of a GOER: by which TRAIN he is GONE; NONE.", () -> {
            SinglesPast x = Check.with("goer to 0 money 99;goer to 0 money 99;train seats 1 stops a;train seats 1 stops a");
            Check.is("by no day", x.ahead(0, 0), -1);
            Check.is("by one", x.ahead(0, 1), 0);
            x.sell(1, 1);
            Check.is("gone already, by no day", x.ahead(1, 0), 1);
            Check.is("gone already, by sixty", x.ahead(1, 60), 1);
        });
        Edge.of(54, "IllegalArgumentException: N is none.", () -> {
            SinglesPast x = Check.with("goer to 0 money 99");
            Check.each(IllegalArgumentException.class, n -> x.ahead(0, n), 61, -1, MOST, LEAST);
        });
        Edge.of(54, NO_INDEX, () -> {
            SinglesPast x = Check.with("goer to 0 money 99");
            Check.each(IndexOutOfBoundsException.class, g -> x.ahead(g, 0), 1, 6, MOST, -1, LEAST);
            Check.each(IndexOutOfBoundsException.class, g -> x.ahead(g, 61), 1, -1);
        });
        Edge.of(54, "DAY is 1 more (9999 at most).", () -> {
            SinglesPast x = lastDay("bar if day > 98");
            Check.is("the last day does not end", x.ahead(0, 60), -1);
            Check.is("nor in a trial", x.trial(60, false), 0);
        });
    }

    private static void trial() {
        Edge.of(55, "TRIAL of N DAYS (0 to 60) from now (draws, too; nothing stays): GOERS GONE then, as bits; how many sets AGREE then.", () -> {
            SinglesPast x = Check.with("thing at 5 so;goer to 0 money 99 nerve 100 undoes 0 born 0;goer to 0 money 99 nerve 0;goer to 0 money 99 nerve 30;"
                    + "train seats 6 stops a", "bar if day < 59");
            Check.is("none", x.trial(0, false), 0);
            Check.is("one set agrees", x.trial(0, true), 1);
            Check.is("59 are too few", x.trial(59, false), 0);
            Check.is("by the sixtieth", x.trial(60, false) & 3, 1);
            Check.is("no set agrees then", x.trial(60, true), 0);
            Check.law(x, "");
            String before = Seen.of(x);
            int then = x.trial(20, false);
            Check.is("nothing stays", Seen.of(x), before);
            x.days(20);
            Check.is("as it was tried", x.gone(), then);
        });
        Edge.of(55, "TRIAL: GOERS, as bits (agree false), or how many sets.", () -> {
            SinglesPast x = Check.with("thing at 5;goer to 0 money 99 nerve 100 does 0 born 0;goer to 0 money 99 nerve 100;train seats 6 stops a");
            Check.is("both", x.trial(1, false), 3);
            Check.is("two sets", x.trial(1, true), 2);
            x.sell(1, 0);
            Check.is("who is gone already", x.trial(0, false), 2);
            Check.is("without goers", new SinglesPast().trial(60, false), 0);
            Check.is("without goers, sets", new SinglesPast().trial(60, true), 1);
        });
        Edge.of(55, "IllegalArgumentException: N is none.", () -> {
            Check.each(IllegalArgumentException.class, n -> new SinglesPast().trial(n, false), 61, -1, MOST, LEAST);
            Check.each(IllegalArgumentException.class, n -> new SinglesPast().trial(n, true), 61, -1, MOST, LEAST);
        });
    }

    /** How many of three alike, who all CAN go, are GONE after so many days. */
    private static int goneOfThree(int seed, int nerve, int days) {
        int gone = 0;
        for (int day = 0; day < days; day++) {
            for (int g = 0; g < 3; g++) {
                if ((gone >> g & 1) == 0) {
                    seed = 1103515245 * seed + 12345;
                    gone |= (seed >>> 16) % 32768 % 100 < nerve ? 1 << g : 0;
                }
            }
        }
        return Integer.bitCount(gone);
    }

    private static void span() {
        Edge.of(56, "SPAN: the least and the greatest number GONE so from SEED 1, 2, .. 6.", () -> {
            SinglesPast all = Check.with(six("goer to 0 money 99 nerve 100") + ";train seats 6 stops a");
            Check.is("all six, always", all.span(1, false) * 10 + all.span(1, true), 66);
            Check.is("none in no day", all.span(0, false) * 10 + all.span(0, true), 0);
            SinglesPast nobody = new SinglesPast();
            Check.is("none of nobody", nobody.span(60, false) * 10 + nobody.span(60, true), 0);
            for (int nerve = 0; nerve <= 100; nerve += 5) {
                SinglesPast x = Check.with("goer to 0 money 99;goer to 0 money 99;goer to 0 money 99;train seats 6 stops a");
                for (int g = 0; g < 3; g++) {
                    x.nerve(g, nerve);
                }
                x.seed(99);
                for (int days = 0; days < 7; days++) {
                    int least = 3;
                    int most = 0;
                    for (int seed = 1; seed <= 6; seed++) {
                        least = Math.min(least, goneOfThree(seed, nerve, days));
                        most = Math.max(most, goneOfThree(seed, nerve, days));
                    }
                    Check.is("least, nerve " + nerve + ", days " + days, x.span(days, false), least);
                    Check.is("most, nerve " + nerve + ", days " + days, x.span(days, true), most);
                }
                Check.is("the seed stays", x.seed(1), 99);
            }
        });
        Edge.of(56, "SPAN: the least (most false), or the greatest.", () -> {
            SinglesPast x = Check.with("goer to 0 money 99 nerve 100;goer to 0 money 99 nerve 0;goer to 0 money 99 nerve 0;train seats 6 stops a", "bar if day < 59");
            Check.is("59 are too few", x.span(59, true), 0);
            Check.is("by the sixtieth", x.span(60, false), 1);
            x.nerve(1, 100);
            Check.law(x, "");
            x.sell(2, 0);
            Check.is("who is gone counts", x.span(0, false), 1);
            Check.is("and those who go", x.span(1, false), 3);
            Check.is("without goers", new SinglesPast().span(60, true), 0);
            Check.is("without goers, the least", new SinglesPast().span(60, false), 0);
        });
        Edge.of(56, "IllegalArgumentException: N is none.", () -> {
            Check.each(IllegalArgumentException.class, n -> new SinglesPast().span(n, false), 61, -1, MOST, LEAST);
            Check.each(IllegalArgumentException.class, n -> new SinglesPast().span(n, true), 61, -1, MOST, LEAST);
        });
    }
}
