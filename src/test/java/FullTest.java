/** A station with all that there may be: no call goes beyond its rows, and no call throws of itself. */
public final class FullTest {
    public static void main(String[] args) {
        SinglesPast x = full();
        askAll(x);
        x.days(60);
        askAll(x);
        Check.is("all gone", x.gone(), 63);
        for (int i = 0; i < 13; i++) {
            x.recall(5);
            x.pay(5, 900);
            x.sell(5, 1);
        }
        Check.is("undo is full", x.count(9), 12);
        askAll(x);
        deepLaw(x);
        longLaw(x);
        Check.end();
    }

    private static SinglesPast full() {
        SinglesPast x = Check.with("thing at 15 so worth 99;thing at 14 so worth 99;thing at 13 so worth 99;thing at 12 so worth 99;"
                + "thing at 11 so worth 99;thing at 10 so worth 99;thing at 9 so worth 99;thing at 8 so worth 99;"
                + "makes 7 6;makes 6 5;makes 5 4;makes 4 3;makes 3 2;makes 2 1");
        Check.station(x, "makes 1 0;goer to 0 money 999 nerve 100 does 0 born 7;goer to 0 money 999 nerve 100 does 1 born 7;"
                + "goer to 0 money 999 nerve 100 does 2 born 7;goer to 0 money 999 nerve 100 does 3 born 7;"
                + "goer to 0 money 999 nerve 100 does 4 born 7;goer to 0 money 999 nerve 100 does 7 born 0");
        Check.station(x, "train seats 1 stops p;train seats 6 stops a;train seats 6 stops a;train seats 6 stops a;"
                + "train seats 6 stops abcdefghijklmnop;day 999");
        Check.tape(x, "makes 0 8");
        Check.noArgument("a 9th thing", x::station);
        Check.is("fault", x.fault(), 8);
        Check.tape(x, "shuns 5 6");
        Check.noArgument("a 7th goer", x::station);
        Check.is("fault", x.fault(), 8);
        return x;
    }

    private static void askAll(SinglesPast x) {
        Check.is("worth", x.worth(), 8 * 99);
        Check.is("line", x.thing(0, 6), 8);
        Check.is("world", x.world(63), 255);
        Check.is("loose", x.loose(), 0);
        Check.is("past", x.past(), x.gone());
        Check.is("ring", x.ring(), -1);
        Check.is("heavy", x.heavy(), 0);
        Check.is("key", x.key() >= 0, true);
        Check.is("hangs", x.hangs(7) >> 8, 0);
        Check.is("twins", x.twins(), 0);
        Check.is("crowd", x.crowd(0), 63);
        Check.is("unborn", x.unborn(), 0);
        int staying = 6 - x.count(6);
        Check.is("colours", x.colours(-1), staying);
        Check.is("clash", x.clash(), -1);
        Check.is("pairs", x.pairs(-1), staying / 2);
        Check.is("dearest", x.dearest(), 0);
        Check.is("earns", x.price(0, true), staying * 999);
        Check.is("no seats for the last stop", x.crowd(15), 0);
        Check.is("never", x.never(), 0);
        Check.is("all money", x.count(7) <= 6 * 999, true);
        Check.is("ahead", x.ahead(5, 60), 1);
        Check.is("trial", x.trial(60, false), 63);
        Check.is("span", x.span(60, false), 6);
        Check.rows(x, 7, 1, 0, 1);
        Check.is("who", x.who(false), 64);
        Check.rows(x, 7, 1, 0, 1);
        Check.is("look", x.look(), 0);
        Check.rows(x, 7, 1);
        Check.is("send", x.send(), 0);
        for (int g = 0; g < 6; g++) {
            for (int what = 0; what < 11; what++) {
                x.goer(g, what);
            }
            Check.is("born anyway", x.kills(g, (g + 1) % 6), false);
            Check.is("rests", x.rests(g), 8);
        }
    }

    private static void deepLaw(SinglesPast x) {
        Check.law(x, "fear 9 if full or born and(full or born and(full or born and(full or born and(full or born and"
                + "(full or born and(full or born and 1+1+1<goer+wish+998+2))))))");
        Check.is("seven levels", x.fear(0, 1), 9);
    }

    /** 399 bytes that are nearly all signs. */
    private static void longLaw(SinglesPast x) {
        String sum = "fear 7 if 0" + "+1".repeat(192);
        Check.law(x, sum + ">191");
        Check.is("a long sum", x.fear(0, 0), 7);
        Check.law(x, sum + ">192");
        Check.is("a long sum is not more", x.fear(0, 0), 0);
    }
}
