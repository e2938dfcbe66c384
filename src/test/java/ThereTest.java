/** Promises 7 to 12: thing, goer, train, cost, fear, may. */
public final class ThereTest {
    public static void main(String[] args) {
        things();
        goers();
        trains();
        costs();
        may();
        Check.end();
    }

    private static void row(String what, int[] got, int... want) {
        for (int i = 0; i < want.length; i++) {
            Check.is(what + " " + i, got[i], want[i]);
        }
    }

    private static int[] thing(SinglesPast x, int t) {
        int[] row = new int[8];
        for (int i = 0; i < 8; i++) {
            row[i] = x.thing(t, i);
        }
        return row;
    }

    private static int[] goer(SinglesPast x, int g) {
        int[] row = new int[11];
        for (int i = 0; i < 11; i++) {
            row[i] = x.goer(g, i);
        }
        return row;
    }

    private static void things() {
        SinglesPast x = Check.with("thing at 0 so worth 0;thing at 4;thing at 4 worth 99;thing at 15;makes 0 3;"
                + "hinders 0 1;makes 1 3;hinders 2 3;thing at 2;makes 4 1;train seats 1 stops cd");
        row("thing 0", thing(x, 0), 0, 1, 0, 8, 2, 1, 1, -1);
        row("thing 1", thing(x, 1), 4, 0, 1, 8, 0, 0, 2, 3);
        row("thing 2", thing(x, 2), 4, 0, 99, 0, 8, 0, 1, 3);
        row("thing 3", thing(x, 3), 15, 0, 1, 0, 0, 1, 3, 3);
        row("thing 4", thing(x, 4), 2, 0, 1, 2, 0, 0, 1, 2);
        x.stops(0, 1);
        Check.is("latest at the first stop", x.thing(3, 7), 0);
        Check.is("latest at its own stop", x.thing(0, 7), 0);
        Check.is("a line from thing 0", Check.with("thing at 1;thing at 2;hinders 0 1").thing(1, 6), 2);
        Check.noElement("thing what 8", () -> x.thing(0, 8));
        Check.noElement("thing what -1", () -> x.thing(0, -1));
        Check.noIndex("thing 5", () -> x.thing(5, 0));
        Check.noIndex("thing -1", () -> x.thing(-1, 0));
        Check.noIndex("thing 5 ahead of what", () -> x.thing(5, 8));
    }

    private static void goers() {
        SinglesPast x = Check.with("thing at 5;thing at 6 so;goer to 4 money 100 does 0;"
                + "goer to 15 money 0 nerve 0 undoes 1 born 1;goer to 0 money 999 nerve 100;shuns 0 2;shuns 1 2;"
                + "train seats 1 stops a;train seats 1 stops e;train seats 1 stops e");
        row("goer 0", goer(x, 0), 4, 0, 1, -1, 100, 50, 4, 0, -1, 1, 1);
        row("goer 1", goer(x, 1), 15, 1, 0, 1, 0, 0, 4, 0, -1, -1, 0);
        row("goer 2", goer(x, 2), 0, -1, 0, -1, 999, 100, 3, 0, -1, 0, 0);
        x.sell(0, 2);
        row("goer 0 gone", goer(x, 0), 4, 0, 1, -1, 90, 50, 4, 1, 2, -1, 1);
        Check.noElement("goer what 11", () -> x.goer(0, 11));
        Check.noElement("goer what -1", () -> x.goer(0, -1));
        Check.noIndex("goer 3", () -> x.goer(3, 0));
        Check.noIndex("goer -1", () -> x.goer(-1, 99));
    }

    private static void trains() {
        SinglesPast x = Check.with("goer to 0 money 99;goer to 0 money 99;goer to 1 money 99;train seats 6 stops pa;"
                + "train seats 1 stops b;train seats 2 stops c");
        Check.is("stops", x.train(0, 0), 0x8001);
        Check.is("seats", x.train(0, 1), 6);
        Check.is("share without", x.train(0, 3), 0);
        x.sell(0, 0);
        x.sell(1, 0);
        x.sell(2, 1);
        Check.is("gone by it", x.train(0, 2), 2);
        Check.is("share", x.train(0, 3), 66);
        Check.is("share of 1", x.train(1, 3), 33);
        Check.is("share of none", x.train(2, 3), 0);
        Check.noElement("train what 4", () -> x.train(0, 4));
        Check.noElement("train what -1", () -> x.train(0, -1));
        Check.noIndex("train 3", () -> x.train(3, 4));
        Check.noIndex("train -1", () -> x.train(-1, 0));
    }

    private static void costs() {
        SinglesPast x = Check.with("goer to 0 money 5;goer to 1 money 50;train seats 1 stops a;train seats 1 stops b");
        Check.is("cost without a law", x.cost(0, 1), 10);
        Check.is("fear without a law", x.fear(0, 1), 0);
        Check.law(x, "cost 200;cost 3 if goer < 1;cost 4 if train < 1;fear 200;fear 5 if money > 10;fear 6 if train > 0;bar");
        Check.is("cost 0 0", x.cost(0, 0), 217);
        Check.is("cost 0 1", x.cost(0, 1), 213);
        Check.is("cost 1 0", x.cost(1, 0), 214);
        Check.is("cost 1 1", x.cost(1, 1), 210);
        Check.is("fear 0 0", x.fear(0, 0), 200);
        Check.is("fear 0 1", x.fear(0, 1), 206);
        Check.is("fear 1 0", x.fear(1, 0), 205);
        Check.is("fear 1 1", x.fear(1, 1), 211);
        Check.noIndex("cost goer", () -> x.cost(2, 0));
        Check.noIndex("cost train", () -> x.cost(0, 2));
        Check.noIndex("fear goer", () -> x.fear(-1, 0));
        Check.noIndex("fear train", () -> x.fear(0, -1));
    }

    private static void may() {
        SinglesPast x = Check.with("goer to 0 money 10;goer to 0 money 9;goer to 0 money 30;goer to 1 money 30;"
                + "shuns 0 2;train seats 2 stops a;train seats 1 stops ab");
        Check.is("just enough money", x.may(0, 0), true);
        Check.is("too little money", x.may(1, 0), false);
        Check.is("stops elsewhere", x.may(3, 0), false);
        Check.is("stops there", x.may(3, 1), true);
        x.sell(0, 0);
        Check.is("gone", x.may(0, 1), false);
        Check.is("whom he shuns is there", x.may(2, 0), false);
        Check.is("whom he shuns is not there", x.may(2, 1), true);
        x.sell(3, 1);
        Check.is("full", x.may(2, 1), false);
        x.recall(3);
        Check.law(x, "bar if train > 0 and goer > 2");
        Check.is("barred", x.may(3, 1), false);
        Check.is("not barred", x.may(2, 1), true);
        Check.law(x, "cost 10;cost 10");
        Check.is("just the cost", x.may(2, 1), true);
        Check.is("cost above money", x.may(3, 1), false);
        Check.noIndex("may goer", () -> x.may(4, 0));
        Check.noIndex("may train", () -> x.may(0, 2));
    }
}
