/** Promises 37 to 56: colours, prices, questions, picks, pairs, odds, those alike, days ahead. */
public final class WaysTest {
    public static void main(String[] args) {
        colours();
        clash();
        prices();
        asks();
        pick();
        pairs();
        rests();
        odds();
        alike();
        ahead();
        trials();
        Check.end();
    }

    private static void ways(String what, SinglesPast x, int many, int... trains) {
        Check.is(what, x.colours(-1), many);
        for (int g = 0; g < trains.length; g++) {
            Check.is(what + " " + g, x.colours(g), trains[g]);
        }
    }

    private static void colours() {
        SinglesPast x = Check.with("goer to 0 money 0;goer to 0 money 0;goer to 0 money 0;shuns 0 1;"
                + "train seats 2 stops a;train seats 1 stops ab", "bar");
        ways("money and bars do not count", x, 3, 0, 1, 0);
        x.quarrel(0, 2, true);
        ways("the first way", x, 3, 1, 0, 0);
        x.quarrel(1, 2, true);
        ways("two trains for three", x, 2, 0, 1, -1);
        x.stops(0, 2);
        ways("one train", x, 1, 1, -1, -1);
        x.wish(1, 1);
        ways("the first has none, if more go", x, 2, 1, 0, -1);
        Check.noIndex("colours 3", () -> x.colours(3));
        Check.noIndex("colours -2", () -> x.colours(-2));
        SinglesPast y = Check.with("goer to 0 money 99;goer to 0 money 99;goer to 1 money 99;train seats 1 stops ab;train seats 1 stops a");
        ways("one makes room", y, 2, 0, 1, -1);
        y.wish(1, 2);
        ways("the first makes room", y, 2, 1, -1, 0);
        y.sell(0, 0);
        ways("as if nobody was gone", y, 1, -1, -1, 0);
        ways("without trains", Check.with("goer to 0 money 0"), 0, -1);
    }

    private static void clash() {
        SinglesPast x = Check.with("goer to 0 money 99;goer to 0 money 99;goer to 0 money 99;goer to 5 money 99;"
                + "train seats 1 stops a;train seats 1 stops a");
        Check.is("one alone", x.clash(), 8);
        x.stops(0, 0x21);
        Check.is("three, the least", x.clash(), 7);
        Check.station(x, "train seats 1 stops a");
        x.wish(3, 5);
        Check.is("all four", x.clash(), 15);
        x.sell(3, 0);
        Check.is("without who is gone", x.clash(), -1);
        SinglesPast y = Check.with("goer to 0 money 99;goer to 0 money 99;goer to 0 money 99;shuns 1 2;train seats 6 stops a");
        Check.is("two who shun", y.clash(), 6);
        y.quarrel(1, 2, false);
        Check.is("none", y.clash(), -1);
    }

    private static void prices() {
        SinglesPast x = Check.with("goer to 3 money 10;goer to 3 money 30;goer to 3 money 15;goer to 9 money 30;"
                + "goer to 9 money 0;train seats 6 stops dj");
        // 10 x 3, 15 x 2, 30 x 1: all 30.
        Check.is("of several the least", x.price(3, false), 10);
        Check.is("earns", x.price(3, true), 30);
        Check.is("price 9", x.price(9, false), 30);
        Check.is("dearest of several the least", x.dearest(), 3);
        x.pay(2, 1);
        Check.is("16 twice", x.price(3, false), 16);
        Check.is("earns 32", x.price(3, true), 32);
        x.pay(3, 10);
        Check.is("dearest", x.dearest(), 9);
        x.sell(3, 0);
        Check.is("who is gone pays no more", x.price(9, true), 0);
        Check.is("price 0", x.price(9, false), 0);
        Check.is("dearest then", x.dearest(), 3);
        Check.is("crowd", x.crowd(9), 24);
        Check.is("no crowd", x.crowd(15), 0);
        Check.noIndex("price 16", () -> x.price(16, false));
        Check.noIndex("price -1", () -> x.price(-1, false));
        Check.noIndex("crowd 16", () -> x.crowd(16));
        Check.noIndex("crowd -1", () -> x.crowd(-1));
        Check.is("no goers: price", new SinglesPast().price(0, false), 0);
        Check.is("no goers: earns", new SinglesPast().price(0, true), 0);
        SinglesPast z = Check.with("goer to 15 money 1");
        Check.is("price 1", z.price(15, false), 1);
        Check.is("the last stop is the dearest", z.dearest(), 15);
        Check.is("crowd of goer 0", z.crowd(15), 1);
        Check.is("goer 0 is brave", z.brave(), 0);
        SinglesPast y = Check.with("goer to 0 money 999;goer to 0 money 999");
        Check.is("the greatest price", y.price(0, false), 999);
        Check.is("all it earns", y.price(0, true), 1998);
    }

    private static void asks() {
        SinglesPast x = new SinglesPast();
        Check.is("two", x.asks(0x8001, false), 1);
        Check.is("two: behind the first", x.asks(0x8001, true), 0);
        Check.is("two late ones", x.asks(0xC000, true), 14);
        Check.is("three", x.asks(0x7000, false), 2);
        Check.is("three: from the first on", x.asks(0x7000, true), 12);
        Check.is("five", x.asks(0x1F, false), 3);
        Check.is("five: 1 and 4", x.asks(0x1F, true), 0);
        Check.is("seven: 3 and 4", x.asks(0x7F, true), 2);
        Check.is("nine", x.asks(0x1FF, false), 4);
        Check.is("nine: 1 and 8", x.asks(0x3FE, true), 1);
        Check.is("others count for nothing", x.asks(-1, false), 4);
        Check.is("one, no question", x.asks(0x10008, true), -1);
        Check.is("none", x.asks(0, true), -1);
    }

    private static void pick() {
        SinglesPast x = new SinglesPast();
        int[] r = {0, 0, 1, 1, 2, 2, 2, 3, 3, 3};
        int[] orders = {1, 1, 3, 11, 52, 308, 2088, 16524, 147312, 1446768};
        for (int n = 1; n <= 10; n++) {
            Check.is("pick " + n, x.pick(n, false), r[n - 1]);
            Check.is("orders of " + n, x.pick(n, true), orders[n - 1]);
        }
        Check.noArgument("pick 0", () -> x.pick(0, true));
        Check.noArgument("pick 11", () -> x.pick(11, true));
    }

    private static void with(String what, SinglesPast x, int many, int... others) {
        Check.is(what, x.pairs(-1), many);
        for (int g = 0; g < others.length; g++) {
            Check.is(what + " " + g, x.pairs(g), others[g]);
        }
    }

    private static void pairs() {
        SinglesPast x = Check.with("goer to 1 money 99;goer to 1 money 99;goer to 1 money 99;goer to 2 money 99;goer to 2 money 99;"
                + "train seats 6 stops bc");
        with("none being the least", x, 2, -1, 2, 1, 4, 3);
        x.quarrel(1, 2, true);
        with("not who shun", x, 2, 1, 0, -1, 4, 3);
        x.quarrel(1, 0, true);
        with("the last way", x, 2, 2, -1, 0, 4, 3);
        x.sell(3, 0);
        with("not who is gone", x, 1, 2, -1, 0, -1, -1);
        x.wish(4, 1);
        with("two of one wish", x, 2, 2, 4, 0, -1, 1);
        Check.noIndex("pairs 5", () -> x.pairs(5));
        Check.noIndex("pairs -2", () -> x.pairs(-2));
        SinglesPast y = Check.with("goer to 1 money 99;goer to 1 money 99;goer to 1 money 99;goer to 1 money 99");
        with("the first way of two pairs", y, 2, 1, 0, 3, 2);
    }

    private static void rests() {
        SinglesPast x = Check.with("goer to 1 money 99 nerve 0;goer to 1 money 99 nerve 39;goer to 1 money 99 nerve 100");
        // Told or not, the clerk has more by not telling; then the man has more by not asking.
        for (int g = 0; g < 3; g++) {
            Check.is("rests " + g, x.rests(g), 8);
        }
        Check.noIndex("rests 3", () -> x.rests(3));
    }

    private static void odds() {
        SinglesPast x = Check.with("goer to 0 money 99 nerve 33;goer to 1 money 99;goer to 0 money 99 nerve 100;"
                + "goer to 0 money 99 nerve 5;train seats 6 stops a", "fear 6 if goer > 2;fear 0");
        int[] stays = {10000, 6700, 4489, 3007, 2014};
        for (int n = 0; n <= 4; n++) {
            Check.is("odds " + n, x.odds(0, n), stays[n]);
            Check.is("without a train", x.odds(1, n), 10000);
            Check.is("surely", x.odds(2, n), n == 0 ? 10000 : 0);
            Check.is("more fear than nerve", x.odds(3, n), 10000);
        }
        Check.noArgument("odds -1", () -> x.odds(0, -1));
        Check.noArgument("odds 5", () -> x.odds(0, 5));
        Check.noIndex("odds of nobody", () -> x.odds(4, 5));
        Check.law(x, "fear 3");
        Check.is("with fear", x.odds(0, 1), 7000);
        x.sell(0, 0);
        Check.is("gone", x.odds(0, 4), 10000);
    }

    private static void alike() {
        SinglesPast x = Check.with("thing at 1 so worth 20;thing at 2 worth 7;goer to 1 money 99 nerve 20 does 0;goer to 1 money 99 undoes 0 born 1;"
                + "goer to 1 money 99;goer to 1 money 99;goer to 2 money 99 nerve 0 born 0;"
                + "train seats 1 stops b;train seats 6 stops bp;train seats 1 stops d");
        Check.is("of one thing, and of none", x.twins(), 2);
        x.deed(2, 0, true);
        Check.is("three of one thing", x.twins(), 3);
        Check.is("brave, the least of several", x.brave(), 1);
        Check.is("unborn", x.unborn(), 2);
        Check.is("worth", x.worth(), 20);
        Check.is("empty", x.empty(), 7);
        Check.is("never", x.never(), 0xFFFF & ~0x800A);
        Check.is("gone", x.gone(), 0);
        x.sell(2, 1);
        x.sell(1, 1);
        Check.is("gone two", x.gone(), 6);
        Check.is("empty but one", x.empty(), 5);
        Check.is("brave of the others", x.brave(), 3);
        x.sell(3, 0);
        x.sell(0, 1);
        Check.is("brave without nerve", x.brave(), 4);
        x.wish(4, 1);
        x.sell(4, 1);
        Check.is("none brave", x.brave(), -1);
        Check.is("none empty but the last", x.empty(), 4);
    }

    private static void ahead() {
        SinglesPast x = Check.with("goer to 0 money 99 nerve 0;goer to 0 money 99;goer to 0 money 99;train seats 1 stops a;"
                + "train seats 1 stops a;day 97", "bar if train > 0 and day > 90;fear 200;bar if goer > 1 and day < 1");
        Check.is("no day", x.ahead(0, 0), -1);
        Check.is("without nerve he goes", x.ahead(0, 1), 0);
        Check.is("the other one not yet", x.ahead(1, 3), -1);
        Check.is("on the day 100", x.ahead(1, 4), 1);
        Check.is("no seat is left", x.ahead(2, 60), -1);
        Check.is("nothing stays", x.gone() + x.count(5), 97);
        Check.is("no draws", x.seed(1), 1);
        Check.is("no acts", x.count(9), 0);
        x.sell(2, 0);
        Check.is("who is gone", x.ahead(2, 0), 0);
        Check.noArgument("-1 days", () -> x.ahead(0, -1));
        Check.noArgument("61 days", () -> x.ahead(0, 61));
        Check.noIndex("nobody", () -> x.ahead(3, 61));
    }

    private static void trials() {
        SinglesPast x = Check.with("thing at 5 so;goer to 0 money 99 nerve 100 undoes 0 born 0;goer to 0 money 99 nerve 3;"
                + "goer to 0 money 99 nerve 0;train seats 6 stops a");
        Check.is("no days", x.trial(0, false), 0);
        Check.is("agree now", x.trial(0, true), 1);
        Check.is("agree then", x.trial(1, true), 0);
        Check.is("the bold one", x.trial(1, false) & 5, 1);
        int then = x.trial(40, false);
        Check.is("nothing stays", x.gone(), 0);
        Check.is("no draws stay", x.seed(1), 1);
        Check.is("no rows stay", x.count(8), 0);
        Check.is("no acts", x.count(9), 0);
        int least = 6;
        int most = 0;
        for (int seed = 1; seed <= 6; seed++) {
            x.seed(seed);
            int gone = Integer.bitCount(x.trial(40, false));
            least = Math.min(least, gone);
            most = Math.max(most, gone);
        }
        x.seed(1);
        spansAreOfSixSeeds();
        Check.is("span", x.span(40, false), least);
        Check.is("span most", x.span(40, true), most);
        Check.is("the span is one", most - least, 1);
        x.days(40);
        Check.is("as it was tried", x.gone(), then);
        Check.is("those gone count", x.span(0, false), Integer.bitCount(then));
        Check.noArgument("trial -1", () -> x.trial(-1, true));
        Check.noArgument("trial 61", () -> x.trial(61, false));
        Check.noArgument("span -1", () -> x.span(-1, true));
        Check.noArgument("span 61", () -> x.span(61, false));
        Check.is("60 days", x.span(60, true) > 0, true);
    }

    /** Over so many days and nerves each of the six seeds is some time the one that counts, a seventh too. */
    private static void spansAreOfSixSeeds() {
        for (int nerve = 5; nerve < 60; nerve += 5) {
            SinglesPast x = Check.with("goer to 0 money 99;goer to 0 money 99;goer to 0 money 99;train seats 6 stops a");
            for (int g = 0; g < 3; g++) {
                x.nerve(g, nerve);
            }
            for (int n = 1; n < 7; n++) {
                int least = 6;
                int most = 0;
                for (int seed = 1; seed <= 6; seed++) {
                    x.seed(seed);
                    int gone = Integer.bitCount(x.trial(n, false));
                    least = Math.min(least, gone);
                    most = Math.max(most, gone);
                }
                Check.is("least of " + n + " days, nerve " + nerve, x.span(n, false), least);
                Check.is("most of " + n + " days, nerve " + nerve, x.span(n, true), most);
            }
        }
    }
}
