/** Promises 1 to 6: a new object, the TAPE, THE STATION, THE LAW, fault. */
public final class TextsTest {
    public static void main(String[] args) {
        newObject();
        tape();
        stationFaults();
        stationTexts();
        stationKeepsNothingOfWrongTexts();
        textsThatWereCut();
        lawFaults();
        lawTexts();
        lawMeaning();
        Check.end();
    }

    private static void newObject() {
        SinglesPast x = new SinglesPast();
        int[] counts = {0, 0, 0, 0, -1, 0, 0, 0, 0, 0, -1};
        for (int what = 0; what < counts.length; what++) {
            Check.is("new count " + what, x.count(what), counts[what]);
        }
        Check.is("new fault", x.fault(), -1);
        Check.is("new past", x.past(), 0);
        Check.is("new agree", x.agree(), 1);
        Check.is("new ring", x.ring(), -1);
        Check.is("new heavy", x.heavy(), -1);
        Check.is("new key", x.key(), -1);
        Check.is("new brave", x.brave(), -1);
        Check.is("new clash", x.clash(), -1);
        Check.is("new colours", x.colours(-1), 0);
        Check.is("new pairs", x.pairs(-1), 0);
        Check.is("new dearest", x.dearest(), 0);
        Check.is("new never", x.never(), 65535);
        Check.is("new world", x.world(-1), 0);
        Check.is("new seed", x.seed(5), 1);
        Check.is("new undo", x.undo(), false);
        Check.is("new back", x.back(), false);
        Check.is("new log", x.log(0, 0), -2);
        Check.is("days without goers", x.days(60), 0);
        Check.noIndex("new goer", () -> x.goer(0, 0));
        Check.noIndex("new thing", () -> x.thing(0, 0));
        Check.noIndex("new train", () -> x.train(0, 0));
        Check.is("NONE", SinglesPast.NONE, -1);
    }

    private static void tape() {
        SinglesPast x = new SinglesPast();
        for (int i = 1; i <= 20; i++) {
            Check.is("feed " + i, x.feed(1, 2, 3, 4, 5), 20 * i);
        }
        Check.is("feed beyond 400", x.feed(0, 0, 0, 0, 0), -1);
        Check.is("end of all", x.end(400), true);
        Check.is("end beyond", x.end(401), false);
        Check.is("end below 0", x.end(-1), false);
        Check.is("end 381", x.end(381), true);
        Check.is("feed to 401", x.feed(0, 0, 0, 0, 0), -1);
        Check.is("end 380", x.end(380), true);
        Check.is("feed to 400", x.feed(0, 0, 0, 0, 0), 400);
        Check.is("end 3", x.end(3), true);
        Check.is("end 4 of 3", x.end(4), false);
        Check.is("end 0", x.end(0), true);
        // "day " "7;da" "y 9  " with the highest byte first.
        Check.is("feed a text", x.feed(0x64617920, 0x373b6461, 0x79203920, 0x20202020, 0x20202020), 20);
        Check.is("a text of numbers", x.station(), 1);
        Check.is("its day", x.count(5), 9);
        Check.is("the tape is used up", x.end(1), false);
    }

    private static void fault(String text, int at) {
        SinglesPast x = Check.with("thing at 3;thing at 5;goer to 1 money 1;goer to 1 money 1");
        Check.tape(x, text);
        if (at < 0) {
            Check.is("\"" + text + "\"", x.station(), 2);
        } else {
            Check.noArgument("\"" + text + "\"", x::station);
            Check.is("the tape behind \"" + text + "\"", x.end(1), false);
        }
        Check.is("fault of \"" + text + "\"", x.fault(), at);
    }

    private static void stationFaults() {
        fault("", -1);
        fault("   ", -1);
        fault("  day  5  ", -1);
        fault("day5", -1);
        fault("thing at 2so worth3", -1);
        fault("day 005", -1);
        fault("day 0005", 4);
        fault("day 5 ; ", 8);
        fault(";", 0);
        fault("day 5;;day 5", 6);
        fault("day 5 day 6", 6);
        fault("Day 5", 0);
        fault("days 5", 0);
        fault("dayz 5", 0);
        fault("day", 3);
        fault("day ", 4);
        fault("day x", 4);
        fault("day -1", 4);
        fault("thing", 5);
        fault("thing to 3", 6);
        fault("thing at 15", -1);
        fault("thing at 16", 9);
        fault("thing at 3 worth 99", -1);
        fault("thing at 3 worth 100", 17);
        fault("thing at 3 worth 1 so", 19);
        fault("thing at 3 soworth 1", 11);
        fault("makes 0 1", -1);
        fault("makes 1 0", 8);
        fault("makes 0 0", 8);
        fault("makes 2 1", 6);
        fault("makes 0 2", 8);
        fault("makes 01", 8);
        fault("hinders 0 1", -1);
        fault("hinders 1 1", 10);
        fault("thing at 4;hinders 2 1;makes 0 2", -1);
        fault("goer to 15 money 999 nerve 100 does 1 born 0", -1);
        fault("goer to 15 money 999 undoes 1", -1);
        fault("goer to 15 money 999 born 1", -1);
        fault("goer to 16 money 9", 8);
        fault("goer to 1 nerve 1", 10);
        fault("goer to 1 money 1 nerve 101", 24);
        fault("goer to 1 money 1 does 2", 23);
        fault("goer to 1 money 1 undoes 2", 25);
        fault("goer to 1 money 1 does 1 undoes 1", 25);
        fault("goer to 1 money 1 born 2", 23);
        fault("goer to 1 money 1 born 1 does 1", 25);
        fault("goer to 1 money 1 does 1 nerve 5", 25);
        fault("shuns 0 1", -1);
        fault("shuns 1 1", 8);
        fault("shuns 2 1", 6);
        fault("shuns 0 2", 8);
        fault("goer to 1 money 1;shuns 0 2", -1);
        fault("train seats 6 stops ponmlkjihgfedcba", -1);
        fault("train seats 0 stops a", 12);
        fault("train seats 7 stops a", 12);
        fault("train seats 1 stops", 19);
        fault("train seats 1 stops ", 20);
        fault("train seats 1 stops ;", 20);
        fault("train seats 1 stops aba", 20);
        fault("train seats 1 stops abq", 20);
        fault("train seats 1 stops az", 20);
        fault("train seats 1 stops a b", 22);
        fault("train seats 1 stopsa", 14);
        fault("day 999", -1);
        fault("day 5\u00e9", 5);
        fault("day\t5", 3);
    }

    private static String times(String text, int n) {
        StringBuilder s = new StringBuilder(text);
        for (int i = 1; i < n; i++) {
            s.append(';').append(text);
        }
        return s.toString();
    }

    private static void stationTexts() {
        fault(times("day 1", 14), -1);
        fault(times("day 1", 14) + ";", 84);
        fault(times("day 1", 14) + "; day 1", 85);
        fault(times("day 1", 14) + ";xyz", 84);
        fault(times("thing at 1", 6), -1);
        fault(times("thing at 1", 6) + "; thing at 99", 67);
        fault(times("goer to 1 money 1", 4), -1);
        fault(times("goer to 1 money 1", 4) + ";goer", 72);
        fault(times("train seats 1 stops a", 5), -1);
        fault(times("train seats 1 stops a", 5) + ";train x", 110);

        SinglesPast x = new SinglesPast();
        for (int i = 1; i <= 12; i++) {
            Check.tape(x, i == 1 ? "thing at 1" : "");
            Check.is("text " + i, x.station(), i);
        }
        Check.tape(x, "dawn");
        Check.noArgument("a 13th text that is wrong", x::station);
        Check.is("fault of the 13th", x.fault(), 0);
        Check.tape(x, "thing at 1");
        Check.fails("a 13th text", UnsupportedOperationException.class, x::station);
        Check.is("fault of a right one", x.fault(), -1);
        Check.is("things stay", x.count(0), 1);
        Check.is("texts stay", x.count(3), 12);
        Check.is("the tape is used up", x.end(1), false);

        SinglesPast y = Check.with("thing at 1;thing at 2;thing at 3;makes 0 1;hinders 0 1;hinders 1 2;makes 1 2");
        Check.is("a later word: no making", y.thing(0, 3), 0);
        Check.is("a later word: hindering", y.thing(0, 4), 2);
        Check.is("a later word: making", y.thing(1, 3), 4);
        Check.is("a later word: no hindering", y.thing(1, 4), 0);
        Check.station(y, "makes 0 1;goer to 2 money 5 nerve 0;goer to 3 money 6;shuns 1 0");
        Check.is("a later text's word", y.thing(0, 3), 2);
        Check.is("shuns", y.goer(0, 6), 2);
        Check.is("is shunned", y.goer(1, 6), 1);
    }

    private static void stationKeepsNothingOfWrongTexts() {
        SinglesPast x = Check.with("thing at 1;goer to 1 money 50;train seats 1 stops b;day 3");
        x.pay(0, 1);
        Check.tape(x, "thing at 2 so;makes 0 1;goer to 2 money 5;shuns 0 1;train seats 2 stops c;day 9;dy");
        Check.noArgument("a wrong text", x::station);
        Check.is("fault", x.fault(), 80);
        Check.is("things", x.count(0), 1);
        Check.is("goers", x.count(1), 1);
        Check.is("trains", x.count(2), 1);
        Check.is("texts", x.count(3), 1);
        Check.is("day", x.count(5), 3);
        Check.is("acts stay", x.count(9), 1);
        Check.is("makes", x.thing(0, 3), 0);
        Check.is("shuns", x.goer(0, 6), 0);
        Check.station(x, "thing at 2");
        Check.is("a new thing is not so", x.thing(1, 1), 0);
        Check.is("no acts behind a text", x.count(9), 0);
        Check.is("no undo behind a text", x.undo(), false);
        Check.is("fault of a right one", x.fault(), -1);
    }

    /** What end cut off is no part of a text any more, though it may still lie there. */
    private static void textsThatWereCut() {
        SinglesPast x = new SinglesPast();
        Check.tape(x, "day 55");
        x.end(5);
        x.station();
        Check.is("a digit was cut off", x.count(5), 5);
        Check.tape(x, "day 7;day 8");
        x.end(5);
        x.station();
        Check.is("a line was cut off", x.count(5), 7);
        Check.tape(x, "day  9");
        x.end(4);
        Check.noArgument("a number was cut off", x::station);
        Check.is("the text's length", x.fault(), 4);
        Check.tape(x, "train seats 1 stops ab");
        x.end(21);
        x.station();
        Check.is("a letter was cut off", x.train(0, 0), 1);
        Check.tape(x, "bar if fully");
        x.end(11);
        Check.is("the end of a word was cut off", x.law(), 1);
        Check.tape(x, "bar if full");
        x.end(10);
        Check.noArgument("a word was cut off", x::law);
        Check.is("its begin", x.fault(), 7);
    }

    private static void lawFault(String text, int at) {
        SinglesPast x = new SinglesPast();
        Check.law(x, "bar;bar;bar");
        Check.tape(x, text);
        if (at < 0) {
            x.law();
        } else {
            Check.noArgument("\"" + text + "\"", x::law);
            Check.is("lines behind \"" + text + "\"", x.count(4), 3);
            Check.is("the tape behind \"" + text + "\"", x.end(1), false);
        }
        Check.is("fault of \"" + text + "\"", x.fault(), at);
    }

    private static void lawFaults() {
        lawFault("", -1);
        lawFault("  ", -1);
        lawFault("cost 0", -1);
        lawFault("cost 200", -1);
        lawFault("cost 201", 5);
        lawFault("cost 0200", 5);
        lawFault("cost if born", 5);
        lawFault("fear 200 if born", -1);
        lawFault("fear", 4);
        lawFault("fears 5", 0);
        lawFault("bar if", 6);
        lawFault("bar if ", 7);
        lawFault("bar if born or", 14);
        lawFault("bar if born or or", 15);
        lawFault("bar if born does", 12);
        lawFault("bar if born and does or full", -1);
        lawFault("bar if 999 < goer + wish+money+nerve+train+gone+day", -1);
        lawFault("bar if 1000 < goer", 7);
        lawFault("bar if 1 < 2 < 3", 13);
        lawFault("bar if 1 = 2", 9);
        lawFault("bar if 1 +", 10);
        lawFault("bar if 1 + born", 11);
        lawFault("bar if born + 1", 12);
        lawFault("bar if (1 < 2", 13);
        lawFault("bar if (1) < 2", 9);
        lawFault("bar if ()", 8);
        lawFault("bar if born)", 11);
        lawFault("bar if (born))", 13);
        lawFault("bar if goers < 1", 7);
        lawFault("bar if1<2", -1);
        lawFault("bar if not not not not not not born", -1);
        lawFault("bar if not not not not not not not born", 31);
        lawFault("bar if ((((((born))))))", -1);
        lawFault("bar if (((((((born)))))))", 13);
        lawFault("bar if not(not(not(1<2)))", -1);
        lawFault("bar if not(not(not(not 1<2)))", 19);
        lawFault("bar if not(not(not((1<2))))", 19);
        lawFault("bar if (((((not born)))))and((((((does))))))", -1);
        lawFault(times("bar", 12), -1);
        lawFault(times("bar", 12) + "; bar", 49);
        lawFault(times("bar", 12) + ";", 48);
        lawFault("bar;", 4);
        lawFault("bar;;bar", 4);
        lawFault("bar if born if does", 12);
    }

    private static void lawTexts() {
        SinglesPast x = Check.with("goer to 1 money 50;train seats 1 stops b");
        Check.tape(x, "");
        Check.is("a law without lines", x.law(), 0);
        Check.is("its lines", x.count(4), 0);
        Check.is("its cost", x.cost(0, 0), 10);
        Check.tape(x, " cost 5 ; cost 7 ; fear 3 ");
        Check.is("lines", x.law(), 3);
        Check.is("cost", x.cost(0, 0), 22);
        Check.tape(x, "cost 1");
        Check.is("another law", x.law(), 1);
        Check.is("in place of the one before", x.cost(0, 0), 11);
        x.pay(0, 1);
        Check.law(x, "cost 2");
        Check.is("acts behind a law", x.count(9), 0);
        Check.is("texts of the station", x.count(3), 1);
    }

    private static boolean holds(String condition) {
        SinglesPast x = Check.with("thing at 9;goer to 3 money 40 nerve 60;goer to 5 money 70 nerve 20 does 0 born 0;"
                + "goer to 5 money 500;train seats 6 stops p;train seats 2 stops f;day 345", "");
        x.sell(2, 1);
        Check.law(x, "fear 7 if " + condition);
        return x.fear(1, 1) == 7;
    }

    private static void lawMeaning() {
        String[] so = {"born", "does", "not full", "goer > 0", "goer < 2", "wish > 4", "wish < 6", "money > 69",
            "money < 71", "nerve > 19", "nerve < 21", "train > 0", "train < 2", "gone > 0", "gone < 2", "day > 44",
            "day < 46", "wish + goer + 1 > 6", "wish + goer + 1 < 8", "full or born and does", "born or does and full",
            "not full and born", "not (full and born)", "not not born", "not 1 > 2 and 1 < 2", "(full or born) and does",
            "1 < 2 or full and full", "full and full or 1 < 2", "full or full or born", "999 > 998"};
        for (String condition : so) {
            Check.is(condition, holds(condition), true);
        }
        String[] not = {"full", "not born", "1 > 1", "1 < 1", "(born or does) and full", "full or full",
            "born and does and full", "not (full or born)", "not full and full", "not not full", "goer > 1", "train > 1"};
        for (String condition : not) {
            Check.is(condition, holds(condition), false);
        }
        SinglesPast x = Check.with("goer to 0 money 99;goer to 0 money 99;train seats 1 stops a", "cost 4 if full;fear 2 if gone > 0");
        Check.is("not full", x.cost(0, 0), 10);
        x.sell(0, 0);
        Check.is("full", x.cost(1, 0), 14);
        Check.is("full for him too", x.cost(0, 0), 14);
        Check.is("gone by it", x.fear(1, 0), 2);
    }
}
