/** Promises 13 to 21 and 57 to 63: acts, the log, seed, undo, image, back, count. */
public final class ActsTest {
    private static final String SMALL = "thing at 5;thing at 6 so;goer to 4 money 100 nerve 100 does 0;"
            + "goer to 4 money 30 nerve 0;goer to 7 money 12 nerve 100;train seats 1 stops e;train seats 2 stops eh;day 7";

    public static void main(String[] args) {
        days();
        draws();
        sell();
        tell();
        quarrelStopsRecall();
        log();
        undo();
        undoBringsAllBack();
        image();
        counts();
        Check.end();
    }

    private static void days() {
        SinglesPast x = Check.with(SMALL);
        Check.noArgument("no days", () -> x.days(0));
        Check.noArgument("days below 0", () -> x.days(-1));
        Check.noArgument("too many days", () -> x.days(61));
        Check.is("nothing kept of these", x.count(9), 0);
        Check.is("a day", x.days(1), 2);
        Check.is("gone", x.gone(), 5);
        Check.is("day", x.count(5), 8);
        Check.is("by the first train", x.goer(0, 8), 0);
        Check.is("by the only train", x.goer(2, 8), 1);
        Check.is("paid", x.goer(0, 4), 90);
        Check.is("paid too", x.goer(2, 4), 2);
        Check.is("without nerve he stays", x.days(60), 0);
        Check.is("day then", x.count(5), 68);
        x.nerve(1, 100);
        Check.is("now he goes", x.days(60), 1);
        Check.is("by what is not full", x.goer(1, 8), 1);
        for (int i = 0; i < 170; i++) {
            x.days(60);
        }
        Check.is("the last day", x.count(5), 9999);
        x.days(1);
        Check.is("no day behind it", x.count(5), 9999);
        Check.law(x, "fear 1 if day > 98");
        Check.is("day modulo 100", x.fear(0, 0), 1);
    }

    /** SEED and DRAWS as the document tells them. */
    private static int next(int seed) {
        return 1103515245 * seed + 12345;
    }

    private static void draws() {
        SinglesPast x = Check.with("goer to 0 money 99 nerve 0;goer to 1 money 99 nerve 100;goer to 2 money 0;train seats 6 stops bc");
        int seed = next(next(next(1)));
        x.days(1);
        Check.is("each not gone draws, also without a train", x.seed(9), seed);
        Check.is("who was bold is gone", x.gone(), 2);
        x.days(1);
        Check.is("who is gone draws no more", x.seed(0), next(next(9)));
        for (int seedOfDay = 1; seedOfDay < 40; seedOfDay++) {
            SinglesPast y = Check.with("goer to 0 money 99 nerve 60;train seats 1 stops a", "fear 15");
            Check.is("seed", y.seed(seedOfDay), 1);
            int draw = (next(seedOfDay) >>> 16 & 32767) % 100;
            Check.is("draw " + draw, y.days(1), draw < 45 ? 1 : 0);
        }
        for (int seedOfDay = 1; seedOfDay < 20; seedOfDay++) {
            int draw = (next(seedOfDay) >>> 16 & 32767) % 100;
            SinglesPast y = Check.with("goer to 0 money 99;train seats 1 stops a");
            y.nerve(0, draw);
            y.seed(seedOfDay);
            Check.is("a draw just as great as nerve", y.days(1), 0);
            y.nerve(0, draw + 1);
            y.seed(seedOfDay);
            Check.is("a draw just below nerve", y.days(1), 1);
        }
        for (int seedOfDay = 1; seedOfDay < 20; seedOfDay++) {
            int draw = (next(seedOfDay) >>> 16 & 32767) % 100;
            SinglesPast y = Check.with("goer to 0 money 99 nerve 100;train seats 1 stops a", "fear " + (100 - draw));
            y.seed(seedOfDay);
            Check.is("a draw just as great as nerve less fear", y.days(1), 0);
        }
        SinglesPast z = Check.with("goer to 0 money 99 nerve 50;train seats 1 stops a", "fear 50");
        Check.is("as much fear as nerve", z.days(60), 0);
        Check.law(z, "fear 90");
        Check.is("more fear than nerve", z.days(60), 0);
    }

    private static void sell() {
        SinglesPast x = Check.with(SMALL, "cost 5 if goer < 1;fear 200");
        Check.noState("stops elsewhere", () -> x.sell(2, 0));
        Check.noIndex("no goer", () -> x.sell(3, 0));
        Check.noIndex("no train", () -> x.sell(0, 2));
        Check.is("sold", x.sell(0, 1), 15);
        Check.is("money", x.goer(0, 4), 85);
        Check.is("by it", x.goer(0, 8), 1);
        Check.is("no day more", x.count(5), 7);
        Check.is("no draw", x.seed(1), 1);
        Check.noState("gone already", () -> x.sell(0, 0));
        Check.is("acts", x.count(9), 1);
        x.sell(1, 0);
        x.pay(2, 1);
        Check.is("sold to one without money left", x.sell(2, 1), 10);
    }

    private static void tell() {
        SinglesPast x = Check.with(SMALL);
        Check.is("pay", x.pay(2, 1), 13);
        Check.is("pay at most", x.pay(2, 999), 999);
        Check.noArgument("pay 0", () -> x.pay(0, 0));
        Check.noArgument("pay 1000", () -> x.pay(0, 1000));
        Check.noIndex("pay whom", () -> x.pay(3, 0));
        Check.is("nerve", x.nerve(0, 0), 100);
        Check.is("nerve again", x.nerve(0, 100), 0);
        Check.noArgument("nerve -1", () -> x.nerve(0, -1));
        Check.noArgument("nerve 101", () -> x.nerve(0, 101));
        Check.noIndex("nerve of whom", () -> x.nerve(-1, 101));
        Check.is("wish", x.wish(0, 15), 4);
        Check.is("wish again", x.wish(0, 4), 15);
        Check.noIndex("wish for what", () -> x.wish(0, 16));
        Check.noIndex("wish for -1", () -> x.wish(0, -1));
        Check.noIndex("whose wish", () -> x.wish(3, 0));
        Check.is("deed", x.deed(0, 1, false), 0);
        Check.is("deed is", x.goer(0, 1), 1);
        Check.is("hinders", x.goer(0, 2), 0);
        Check.is("deed none", x.deed(0, -1, true), 1);
        Check.is("no deed", x.goer(0, 1), -1);
        Check.is("makes nothing", x.goer(0, 2), 0);
        Check.is("deed was none", x.deed(0, 1, true), -1);
        Check.is("makes", x.goer(0, 2), 1);
        Check.noIndex("deed of what", () -> x.deed(0, 2, true));
        Check.noIndex("deed of -2", () -> x.deed(0, -2, true));
        Check.noIndex("whose deed", () -> x.deed(3, 0, true));
        x.sell(0, 0);
        Check.noState("wish of one gone", () -> x.wish(0, 1));
        Check.noState("deed of one gone", () -> x.deed(0, 0, true));
        Check.noIndex("no stop goes first", () -> x.wish(0, 16));
        Check.noIndex("no thing goes first", () -> x.deed(0, 2, true));
        Check.is("pay one gone", x.pay(0, 5), 95);
        Check.is("nerve of one gone", x.nerve(0, 5), 100);
    }

    private static void quarrelStopsRecall() {
        SinglesPast x = Check.with(SMALL);
        Check.is("quarrel", x.quarrel(0, 2, true), true);
        Check.is("quarrel again", x.quarrel(2, 0, true), false);
        Check.is("his", x.goer(0, 6), 4);
        Check.is("the other's", x.goer(2, 6), 1);
        Check.is("no more", x.quarrel(2, 0, false), true);
        Check.is("no more again", x.quarrel(0, 2, false), false);
        Check.is("his then", x.goer(0, 6), 0);
        Check.is("the other's then", x.goer(2, 6), 0);
        Check.noArgument("with himself", () -> x.quarrel(1, 1, true));
        Check.noIndex("with nobody", () -> x.quarrel(0, 3, true));
        Check.noIndex("nobody with nobody", () -> x.quarrel(3, 3, true));
        Check.is("stops", x.stops(0, 3), 16);
        Check.is("stops then", x.stops(0, 0xF0001), 3);
        Check.is("others count for nothing", x.train(0, 0), 1);
        Check.noArgument("no stop", () -> x.stops(0, 0));
        Check.noArgument("only others", () -> x.stops(0, 0x10000));
        Check.noIndex("no train", () -> x.stops(2, 0));
        x.stops(0, 16);
        Check.noState("not gone", () -> x.recall(0));
        Check.noIndex("nobody", () -> x.recall(3));
        x.sell(0, 1);
        Check.is("called back", x.recall(0), 1);
        Check.is("not gone", x.goer(0, 7), 0);
        Check.is("by none", x.goer(0, 8), -1);
        Check.is("money stays", x.goer(0, 4), 90);
    }

    private static void log() {
        SinglesPast x = Check.with(SMALL);
        Check.is("led without rows", x.led(0, false), 0);
        Check.is("led without a day", x.led(0, true), -1);
        x.days(2);
        x.recall(0);
        x.days(1);
        x.sell(1, 1);
        int[][] rows = {{10, 1, 1, 10}, {9, 0, 0, 10}, {9, 0, 0, -1}, {7, 2, 1, 10}, {7, 0, 0, 10}, {-2, -2, -2, -2}};
        for (int ago = 0; ago < rows.length; ago++) {
            for (int what = 0; what < 4; what++) {
                Check.is("log " + ago + " " + what, x.log(ago, what), rows[ago][what]);
            }
        }
        Check.is("rows", x.count(8), 5);
        Check.is("log -1", x.log(-1, 0), -2);
        Check.noElement("log what 4", () -> x.log(0, 4));
        Check.noElement("log what -1", () -> x.log(99, -1));
        Check.is("led 1", x.led(1, false), 1);
        Check.is("led 2", x.led(2, false), 1);
        Check.is("led 2 day", x.led(2, true), 7);
        Check.is("led 0", x.led(0, false), 3);
        Check.is("led 0 day", x.led(0, true), 9);
        Check.is("led 1 day", x.led(1, true), 10);
        Check.noIndex("led nobody", () -> x.led(3, true));

        SinglesPast y = Check.with("goer to 0 money 999;goer to 1 money 99;train seats 1 stops a;train seats 1 stops b;day 3");
        y.sell(1, 1);
        for (int i = 0; i < 30; i++) {
            y.sell(0, 0);
            y.recall(0);
        }
        Check.is("at most 60 rows", y.count(8), 60);
        Check.is("the oldest is gone", y.led(1, false), 0);
        Check.is("no day of it", y.led(1, true), -1);
        Check.is("the oldest row", y.log(59, 3), 10);
        Check.is("no row 60", y.log(60, 3), -2);
        y.undo();
        Check.is("60 rows again", y.count(8), 60);
        Check.is("the oldest is there again", y.led(1, false), 1);
        Check.is("its day", y.led(1, true), 3);
    }

    private static void undo() {
        SinglesPast x = Check.with(SMALL);
        for (int i = 0; i < 13; i++) {
            x.pay(0, 1);
        }
        Check.is("12 are remembered", x.count(9), 12);
        for (int i = 0; i < 12; i++) {
            Check.is("undo " + i, x.undo(), true);
        }
        Check.is("no more", x.undo(), false);
        Check.is("one stays", x.goer(0, 4), 101);
        x.days(30);
        Check.is("days of one call are one", x.count(9), 1);
        Check.noState("what throws is no act", () -> x.sell(0, 0));
        Check.is("still one", x.count(9), 1);
        Check.is("undone", x.undo(), true);
        Check.is("day", x.count(5), 7);
        Check.is("nobody gone", x.gone(), 0);
        Check.is("money", x.goer(0, 4), 101);
        Check.is("log", x.count(8), 0);
        Check.is("seed", x.seed(1), 1);
        x.quarrel(0, 1, false);
        Check.is("also one that changes nothing", x.count(9), 1);
    }

    private static void undoBringsAllBack() {
        SinglesPast x = Check.with(SMALL);
        x.wish(0, 9);
        x.deed(0, 1, false);
        x.nerve(0, 3);
        x.quarrel(0, 1, true);
        x.stops(0, 1);
        Check.is("world with the deed", x.world(1), 2);
        for (int i = 0; i < 4; i++) {
            x.undo();
        }
        Check.is("stops", x.train(0, 0), 16);
        Check.is("shuns", x.goer(0, 6) + x.goer(1, 6), 0);
        Check.is("nerve", x.goer(0, 5), 100);
        Check.is("deed", x.goer(0, 1), 0);
        Check.is("makes", x.goer(0, 2), 1);
        Check.is("wish yet", x.goer(0, 0), 9);
        Check.is("too late", x.world(1), 2);
        x.undo();
        Check.is("wish", x.goer(0, 0), 4);
        Check.is("world", x.world(1), 3);
        x.sell(0, 1);
        x.recall(0);
        x.seed(77);
        x.undo();
        Check.is("gone again", x.goer(0, 8), 1);
        Check.is("seed as ahead of it", x.seed(1), 1);
        Check.tape(x, "dy");
        Check.noArgument("wrong text", x::station);
        x.feed(0, 0, 0, 0, 0);
        Check.is("undo", x.undo(), true);
        Check.is("fault stays", x.fault(), 0);
        Check.is("the tape stays", x.end(20), true);
    }

    private static void image() {
        SinglesPast x = Check.with(SMALL, "cost 1");
        x.sell(0, 0);
        x.image();
        x.sell(2, 1);
        x.seed(5);
        Check.law(x, "cost 2;cost 3");
        Check.station(x, "thing at 9;makes 0 2;goer to 3 money 3;train seats 1 stops c;day 500");
        x.pay(0, 1);
        Check.tape(x, "law?");
        Check.noArgument("wrong law", x::law);
        x.feed(0, 0, 0, 0, 0);
        Check.is("back", x.back(), true);
        int[] counts = {2, 3, 2, 1, 1, 7, 1, 131, 1, 0};
        for (int what = 0; what < counts.length; what++) {
            Check.is("count " + what + " then", x.count(what), counts[what]);
        }
        Check.is("no undo behind it", x.undo(), false);
        Check.is("seed then", x.seed(1), 1);
        Check.is("the law then", x.cost(1, 1), 11);
        Check.is("ties then", x.thing(0, 3), 0);
        Check.is("fault stays", x.fault(), 0);
        Check.is("the tape stays", x.end(20), true);
        x.recall(0);
        Check.is("back again", x.back(), true);
        Check.is("gone again", x.gone(), 1);
        x.image();
        x.pay(1, 1);
        x.image();
        x.pay(1, 1);
        x.back();
        Check.is("the latest image", x.goer(1, 4), 31);
        x.pay(1, 1);
        x.undo();
        Check.is("the image is none of undo's", x.back(), true);
    }

    private static void counts() {
        SinglesPast x = Check.with(SMALL, "cost 1;cost 1;bar if wish > 6");
        x.sell(0, 0);
        x.sell(1, 1);
        x.recall(0);
        int[] counts = {2, 3, 2, 1, 3, 7, 1, 88 + 18 + 12, 3, 3, -1};
        for (int what = 0; what < counts.length; what++) {
            Check.is("count " + what, x.count(what), counts[what]);
        }
        Check.is("count -1", x.count(-1), -1);
    }
}
