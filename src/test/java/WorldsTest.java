/** Promises 22 to 36: worlds, which sets agree, rings, sending, what hangs on what. */
public final class WorldsTest {
    public static void main(String[] args) {
        worlds();
        grandfather();
        chains();
        rings();
        heavy();
        send();
        who();
        look();
        hangs();
        kills();
        Check.end();
    }

    private static void worlds() {
        SinglesPast x = Check.with("thing at 3 so;thing at 5;thing at 7 so;makes 0 1;hinders 1 2;"
                + "goer to 3 money 99 undoes 0;goer to 4 money 99 undoes 0;goer to 5 money 99 does 1;goer to 0 money 99 does 0;"
                + "goer to 5 money 99 undoes 1;goer to 1 money 99");
        Check.is("of nobody", x.world(0), 3);
        Check.is("a deed at its stop", x.world(1), 4);
        Check.is("a deed that comes too late", x.world(2), 3);
        Check.is("the one of the greatest number makes", x.world(1 | 8), 3);
        Check.is("makes what is made already", x.world(4), 3);
        Check.is("makes against what is not", x.world(1 | 4), 2);
        Check.is("the greatest number hinders", x.world(4 | 16), 5);
        Check.is("one without a deed", x.world(32), 3);
        Check.is("others count for nothing", x.world(64 | 1), 4);
        Check.is("all bits", x.world(-1), 5);
        SinglesPast y = Check.with("thing at 1 so;thing at 1 so;thing at 2;makes 0 2;hinders 1 2");
        Check.is("hindering goes before making", y.world(0), 3);
        SinglesPast z = Check.with("thing at 9 so;thing at 1 so;thing at 5;makes 1 2;hinders 2 0");
        Check.is("by stops, not by numbers", z.world(0), 6);
    }

    /** One who undoes that of which he is born. */
    private static void grandfather() {
        SinglesPast x = Check.with("thing at 5 so worth 7;goer to 2 money 99 undoes 0 born 0;goer to 2 money 99;train seats 6 stops c");
        Check.is("nobody gone: agrees", x.agrees(0), true);
        Check.is("agrees(1): not gone", x.agrees(1), false);
        Check.is("agree", x.agree(), 1);
        Check.is("otherwise, before", x.otherwise(0), 1);
        x.sell(0, 0);
        Check.is("without him he is born", x.agrees(0), false);
        Check.is("with him he is not", x.agrees(1), false);
        Check.is("agree", x.agree(), 0);
        Check.is("past", x.past(), -1);
        Check.is("now is the world of nobody", x.now(), 1);
        Check.is("worth", x.worth(), 7);
        Check.is("ring", x.ring(), 1);
        x.sell(1, 0);
        Check.is("the smallest ring", x.ring(), 1);
        Check.is("agrees bits of none", x.agrees(2 | 64), false);
        x.recall(0);
        Check.is("one born of none has gone", x.agrees(0), false);
        Check.is("he has", x.agrees(2), true);
        Check.is("bits of none count for nothing", x.agrees(2 | 64 | 128), true);
        Check.is("past", x.past(), 2);
        Check.is("no ring", x.ring(), -1);
        Check.noIndex("otherwise nobody", () -> x.otherwise(2));
        Check.noIndex("otherwise -1", () -> x.otherwise(-1));
    }

    /** One who makes that of which he is born: it may be or not. */
    private static void chains() {
        SinglesPast x = Check.with("thing at 5;thing at 8;makes 0 1;goer to 2 money 99 does 0 born 1;"
                + "goer to 8 money 99 does 1;train seats 6 stops ci");
        x.sell(0, 0);
        Check.is("two agree", x.agree(), 2);
        Check.is("nobody", x.agrees(0), true);
        Check.is("he himself", x.agrees(1), true);
        Check.is("the fewest", x.past(), 0);
        Check.is("now", x.now(), 0);
        Check.is("unborn", x.unborn(), 1);
        Check.is("if the other had gone", x.otherwise(1), 3);
        Check.is("changes", x.goer(1, 10), 3);
        Check.is("if he had not gone", x.otherwise(0), 0);
        x.sell(1, 0);
        Check.is("by the other he is born", x.agrees(2), false);
        Check.is("both", x.agrees(3), true);
        Check.is("past", x.past(), 3);
        Check.is("now both", x.now(), 3);
        Check.is("so now", x.thing(1, 5), 1);
        Check.is("nobody unborn", x.unborn(), 0);
        SinglesPast y = Check.with("thing at 5;thing at 6;goer to 1 money 99 does 0 born 0;goer to 1 money 99 does 1 born 1;"
                + "goer to 1 money 99 does 0;goer to 1 money 99 does 1;train seats 6 stops b");
        y.sell(0, 0);
        y.sell(1, 0);
        Check.is("four sets", y.agree(), 4);
        Check.is("nobody is the fewest", y.past(), 0);
    }

    /** Two of whom each undoes the other, and one of them by what makes him: no ring of one. */
    private static void rings() {
        SinglesPast x = Check.with("thing at 5 so;thing at 6 so;goer to 1 money 99 undoes 1 born 0;"
                + "goer to 1 money 99 undoes 0 born 1;goer to 1 money 99;train seats 6 stops b");
        x.sell(0, 0);
        x.sell(1, 0);
        Check.is("either of them", x.agree(), 2);
        Check.is("the least", x.past(), 1);
        Check.is("no ring", x.ring(), -1);
        // 0 makes the thing that 1 is born of; 1 undoes the thing that 0 is born of.
        SinglesPast y = Check.with("thing at 5 so;thing at 6;goer to 1 money 99;goer to 1 money 99;"
                + "goer to 1 money 99 does 1 born 0;goer to 1 money 99 undoes 0 born 1;train seats 6 stops b");
        for (int g = 0; g < 4; g++) {
            y.sell(g, 0);
        }
        Check.is("none agrees", y.agree(), 0);
        Check.is("the ring of two", y.ring(), 12);
        y.recall(3);
        Check.is("without one of them", y.agree(), 1);
        Check.is("no ring then", y.ring(), -1);
    }

    private static void heavy() {
        SinglesPast x = Check.with("thing at 5 worth 9;thing at 6 worth 5;thing at 7 worth 5;goer to 1 money 99;"
                + "goer to 1 money 99 does 0;goer to 1 money 99 does 1;train seats 6 stops b");
        Check.is("the most worth", x.heavy(), 1);
        Check.station(x, "makes 1 2");
        Check.is("more together", x.heavy(), 2);
        x.deed(2, -1, false);
        x.deed(1, -1, false);
        Check.is("of several the least", x.heavy(), 0);
        x.deed(0, 0, true);
        x.sell(0, 0);
        Check.is("also who is gone", x.goer(0, 10), 1);
        Check.is("who is gone is heavy", x.heavy(), 0);
    }

    private static int send(SinglesPast x, int... rows) {
        Check.rows(x, rows);
        return x.send();
    }

    private static void noRows(SinglesPast x, int... rows) {
        Check.rows(x, rows);
        Check.noArgument("send", x::send);
        Check.is("the tape is used up", x.end(1), false);
        Check.rows(x, rows);
        Check.noArgument("who", () -> x.who(true));
        Check.is("the tape is used up", x.end(1), false);
        Check.rows(x, rows);
        Check.noArgument("look", x::look);
        Check.is("the tape is used up", x.end(1), false);
    }

    private static void send() {
        SinglesPast x = Check.with("thing at 5;thing at 6 so;thing at 7;makes 0 2;goer to 1 money 0 does 0;"
                + "goer to 1 money 0 undoes 1;goer to 1 money 99 does 2;goer to 1 money 99 undoes 0 born 0;train seats 6 stops b");
        Check.is("none told", send(x), 0);
        Check.is("so already", send(x, 1, 1, 2, 0), 0);
        Check.is("the least of one", send(x, 2, 1), 1);
        Check.is("two", send(x, 2, 1, 1, 0), 3);
        Check.is("not by the first", send(x, 2, 1, 0, 0), 4);
        Check.is("told twice", send(x, 2, 1, 2, 1), 1);
        Check.is("cannot be", send(x, 2, 1, 2, 0), -1);
        Check.is("cannot be either", send(x, 0, 1, 2, 0), -1);
        x.sell(2, 0);
        Check.is("by who is gone", send(x, 2, 1, 0, 0), 0);
        Check.is("nobody else", send(x, 2, 0), -1);
        x.sell(3, 0);
        Check.is("one unborn stays so", send(x, 0, 0), 0);
        Check.is("with him there is no past", send(x, 0, 1), -1);
        noRows(x, 0);
        noRows(x, 0, 2);
        noRows(x, 3, 0);
        noRows(x, 0, 1, 200, 1);
        noRows(x, new int[42]);
        Check.is("40 bytes", send(x, new int[40]), 0);
        x.fault();
        Check.is("rows are no text", x.fault(), -1);
    }

    private static int who(SinglesPast x, boolean least, int... rows) {
        Check.rows(x, rows);
        return x.who(least);
    }

    private static void who() {
        SinglesPast x = Check.with("thing at 5;thing at 6 so;goer to 1 money 0 does 0;goer to 1 money 0 undoes 1 born 0;"
                + "goer to 1 money 0;train seats 6 stops b");
        // Without 0, 1 is not born: {}, {0}, {0 1}, each with 2 or without.
        Check.is("all that can be", who(x, false), 6);
        Check.is("the least", who(x, true), 0);
        Check.is("thing 0 so", who(x, false, 0, 1), 4);
        Check.is("the least of these", who(x, true, 0, 1), 1);
        Check.is("thing 1 not", who(x, false, 1, 0), 2);
        Check.is("the least of these", who(x, true, 1, 0), 3);
        Check.is("none", who(x, false, 0, 0, 1, 0), 0);
        Check.is("no least", who(x, true, 0, 0, 1, 0), -1);
        SinglesPast y = Check.with("thing at 1");
        Check.is("without goers", who(y, false, 0, 0), 1);
        Check.is("without goers, otherwise", who(y, true, 0, 1), -1);
    }

    private static int look(SinglesPast x, int... rows) {
        Check.rows(x, rows);
        return x.look();
    }

    private static void look() {
        SinglesPast x = Check.with("thing at 5;thing at 6 so;thing at 7;goer to 1 money 0 does 0;"
                + "goer to 1 money 0 undoes 1 born 0;goer to 1 money 0 does 2;train seats 6 stops b");
        // {} {0} {0 1} {2} {0 2} {0 1 2}: thing 0 so in 4, thing 1 in 4, thing 2 in 3.
        Check.is("the most even", look(x), 2);
        Check.is("of several the least", look(x, 2, 1), 0);
        Check.is("thing 0 so", look(x, 0, 1), 1);
        Check.is("two that differ by 2", look(x, 1, 0), 2);
        Check.is("just one", look(x, 1, 0, 2, 0), -1);
        Check.is("none", look(x, 0, 0, 1, 0), -1);
        SinglesPast y = Check.with("goer to 1 money 0");
        Check.is("two, but no thing", look(y), -1);
        SinglesPast z = Check.with("thing at 1;goer to 1 money 0");
        Check.is("two of one world", look(z), 0);
    }

    private static void hangs() {
        SinglesPast x = Check.with("thing at 1 so;thing at 2;thing at 3 so;thing at 4;makes 0 1;makes 2 3;hinders 1 2;thing at 9");
        Check.is("now", x.now(), 3);
        Check.is("all behind it", x.hangs(0), 15);
        Check.is("what is made anyway", x.hangs(1), 0);
        Check.is("what is hindered anyway", x.hangs(2), 0);
        Check.is("itself alone", x.hangs(3), 8);
        Check.is("key", x.key(), 0);
        Check.is("loose", x.loose(), 16);
        Check.noIndex("hangs 5", () -> x.hangs(5));
        Check.noIndex("hangs -1", () -> x.hangs(-1));
        SinglesPast y = Check.with("thing at 1;thing at 2;goer to 0 money 99 does 1 born 0;train seats 1 stops a");
        Check.is("of several the least", y.key(), 0);
        y.sell(0, 0);
        Check.is("by one who then is born", y.hangs(0), 3);
        Check.is("key then", y.key(), 0);
        Check.is("both loose", y.loose(), 3);
        SinglesPast z = Check.with("thing at 1;thing at 2 so;goer to 0 money 99 does 0;train seats 1 stops a");
        z.sell(0, 0);
        Check.is("a deed holds it", z.hangs(0), 0);
        Check.is("key is another", z.key(), 1);
    }

    private static void kills() {
        SinglesPast x = Check.with("thing at 5 so;thing at 6;goer to 1 money 0 undoes 0;goer to 1 money 0 born 0;"
                + "goer to 1 money 0 born 1;goer to 6 money 0 undoes 0;goer to 1 money 0 does 1 born 0");
        Check.is("kills", x.kills(0, 1), true);
        Check.is("not one born of none", x.kills(1, 0), false);
        Check.is("too late", x.kills(3, 1), false);
        Check.is("what is not so anyway", x.kills(1, 2), true);
        Check.is("what he makes", x.kills(4, 2), false);
        Check.noArgument("himself", () -> x.kills(2, 2));
        Check.noIndex("nobody", () -> x.kills(0, 5));
        Check.noIndex("nobody himself", () -> x.kills(5, 5));
    }
}
